/-! THE JUDGEMENT OF A BODY: SC what stays the same in it, SJ 'from here on the machine comes to Q', a row an instruction; MI, MZ, MV a method's contract with exact answer and exact cells. -/
def SC (p : Program) (s : State) (m : MethodId) (args : Array Value) (c : Code) (cc : ByteArray) (nL : Nat) (own : String) (A : Nat → Prop) (D : va_G) (tys : List (ClassId × FieldType)) : Prop :=
  p.tables.exec = Jvm.exec ∧ c.code = cc ∧ c.maxLocals = nL ∧ s.vm.findClass own = some m.cls ∧ (∀ w ∈ gw, w.before args s = true) ∧ (∀ q : Nat, s.heap.size ≤ q → A q) ∧ va_K D cl_all tys s
def SJ (p : Program) (l : Launch) (e : Env) (R : Room) (s : State) (m : MethodId) (args : Array Value) (below : List Frame) (meth : Method) (c : Code) (A : Nat → Prop) (D : va_G) (nL : Nat) (Q : State → Prop) (w : va_W) (lv : List (Nat × Value)) (pc : Nat) (st : List Value) : Prop :=
  ∀ (H : Heap) (locs : List Loc) (ls : Array Slot), va_P D cl_all w H → va_D A w → va_S A s.heap H locs → lv_has ls nL lv → W p l e R s m args below meth c H locs 0 0 Q (F0 m pc ls st)
theorem sk_fm {α β : Type} (g : α → Option β) : ∀ (is : List α) (ws : List β), is.map g = ws.map some → is.filterMap g = ws
  | [], [], _ => rfl
  | [], _ :: _, h => by simp at h
  | _ :: _, [], h => by simp at h
  | i :: is, q :: ws, h => by
    simp only [List.map_cons, List.cons.injEq] at h
    rw [List.filterMap_cons, h.1, sk_fm g is ws h.2]
theorem gw_good : ∀ w ∈ gw, w ∈ gw ∧ ((w.onTables && w.keeps) = true ∨ ∃ ty, w = .arrayClass ty) := fun _ h => ⟨h, good_of_word (List.mem_filter.mp h).2⟩
theorem gw_app {a : List Cond} {c : Cond} (ha : ∀ w ∈ a, w ∈ gw) (hc : c ∈ gw) : GoodIn gw (a ++ (c :: gw)) := fun w h => by
  rcases List.mem_append.mp h with h | h
  · exact gw_good w (ha w h)
  · rcases List.mem_cons.mp h with rfl | h
    · exact gw_good _ hc
    · exact gw_good w h
theorem gw_self {c : Cond} (hc : c ∈ gw) : GoodIn gw (c :: gw) := fun w h => by
  rcases List.mem_cons.mp h with rfl | h
  · exact gw_good _ hc
  · exact gw_good w h
theorem in_some {P : Prop} [Decidable P] {α : Type} {K : Option α} {r : α} (h : (if P then none else K) = some r) : ¬ P ∧ K = some r := by
  by_cases hP : P
  · rw [if_pos hP] at h; cases h
  · rw [if_neg hP] at h; exact ⟨hP, h⟩
theorem z01_nar {v : Int32} (h : v = 0 ∨ v = 1) : narrow .boolean (.int v) = .int v := by rcases h with rfl | rfl <;> rfl
theorem z01_fit {v : Int32} (h : v = 0 ∨ v = 1) : fits .boolean (.int v) = true := by rcases h with rfl | rfl <;> rfl
theorem z01_vp {v : Int32} (h : v = 0 ∨ v = 1) : vp_nar .boolean v = v := by rcases h with rfl | rfl <;> rfl
def MI (l : Launch) (y : MethodName) (ws : List Cond) (rm : Room) (D : va_G) (tys : List (ClassId × FieldType)) (av : List Value) (w w' : va_W) (r : Int32) : Prop := ∀ sz : Nat,
  Met l y ws rm (va_Pc av (fun U => U.heap.size = sz ∧ va_P D cl_all w U.heap ∧ va_K D cl_all tys U ∧ va_D (fun _ => True) w)) (va_Qi (fun (r' : Int32) (_ : Unit) => r' = r) (fun _ t => va_P D cl_all w' t.heap ∧ va_K D cl_all tys t ∧ va_D (va_A w sz) w') (va_A w sz)) 0 0 (va_A w sz)
def MV (l : Launch) (y : MethodName) (ws : List Cond) (rm : Room) (D : va_G) (tys : List (ClassId × FieldType)) (av : List Value) (w w' : va_W) : Prop := ∀ sz : Nat,
  Met l y ws rm (va_Pc av (fun U => U.heap.size = sz ∧ va_P D cl_all w U.heap ∧ va_K D cl_all tys U ∧ va_D (fun _ => True) w)) (va_Qv (fun (_ : Unit) => True) (fun _ t => va_P D cl_all w' t.heap ∧ va_K D cl_all tys t ∧ va_D (va_A w sz) w') (va_A w sz)) 0 0 (va_A w sz)
section SK
variable {p : Program} {l : Launch} {e : Env} {R : Room} {s : State} {m : MethodId} {args : Array Value} {below : List Frame} {meth : Method} {c : Code} {cc : ByteArray} {nL : Nat} {own : String} {A : Nat → Prop} {D : va_G} {tys : List (ClassId × FieldType)} {Q : State → Prop} {w w' : va_W} {lv lv' : List (Nat × Value)} {pc : Nat} {st : List Value}
theorem MI_of {y : MethodName} {maxL : Nat} {rm : Room} {av : List Value} {r : Int32} (own : String) (hyc : y.cls = own) (hy : plainName y.cls = true) (hle : (lg_sl av).length ≤ maxL)
    (body : ∀ p e s m below meth c A Q, SC p s m av.toArray c cc maxL own A D tys → (∀ (pc : Nat) (lv : List (Nat × Value)), decode cc pc = .ok (.ireturn, 1) → SJ p l e rm s m av.toArray below meth c A D maxL Q w' lv pc [.int r]) → SJ p l e rm s m av.toArray below meth c A D maxL Q w (lv_args 0 av) 0 []) :
    MI l y (.code y cc maxL (some .int) :: gw) rm D tys av w w' r := by
  intro sz
  refine Met.ofW (cc := cc) (maxL := maxL) (ret := some .int) hy rfl ?_
  intro p e s m args below meth c s₁ B hml hv
  obtain ⟨rfl, hsz, hP, hK, hD0⟩ := hv
  subst hsz
  have hts := atoms_spec (ws := .code y cc maxL (some .int) :: gw) B.pre
  have hown : s.vm.findClass own = some m.cls := by rw [← hyc]; exact findClass_of_methodNamed B.named
  have hlocks := B.notSynchronized
  have hr := B.returns
  rw [lg_entry_eq]
  refine body p e s m below meth c (va_A w s.heap.size) _ ⟨B.exec, B.bytes, hml, hown, fun w h => hts w (List.mem_cons_of_mem _ h), fun q h => Or.inr h, hK⟩ ?_ s.heap [] _ hP hD0.self va_S.rf (lv_entry av hle)
  intro pc lv hd H locs ls hP hD hS _
  exact W.iret (v := r) B.exec B.bytes hr (fun t ht hW => ⟨⟨r, (), rfl, rfl, by rw [ht]; exact hP, va_K.moved hW.alike hK, hD⟩, hS.F ht⟩) hS.2.2 hd
theorem MZ_of {y : MethodName} {maxL : Nat} {rm : Room} {av : List Value} {r : Int32} (own : String) (hyc : y.cls = own) (hy : plainName y.cls = true) (hle : (lg_sl av).length ≤ maxL)
    (body : ∀ p e s m below meth c A Q, SC p s m av.toArray c cc maxL own A D tys → (∀ (pc : Nat) (lv : List (Nat × Value)), (r = 0 ∨ r = 1) → decode cc pc = .ok (.ireturn, 1) → SJ p l e rm s m av.toArray below meth c A D maxL Q w' lv pc [.int r]) → SJ p l e rm s m av.toArray below meth c A D maxL Q w (lv_args 0 av) 0 []) :
    MI l y (.code y cc maxL (some .boolean) :: gw) rm D tys av w w' r := by
  intro sz
  refine Met.ofW (cc := cc) (maxL := maxL) (ret := some .boolean) hy rfl ?_
  intro p e s m args below meth c s₁ B hml hv
  obtain ⟨rfl, hsz, hP, hK, hD0⟩ := hv
  subst hsz
  have hts := atoms_spec (ws := .code y cc maxL (some .boolean) :: gw) B.pre
  have hown : s.vm.findClass own = some m.cls := by rw [← hyc]; exact findClass_of_methodNamed B.named
  have hlocks := B.notSynchronized
  have hr := B.returns
  rw [lg_entry_eq]
  refine body p e s m below meth c (va_A w s.heap.size) _ ⟨B.exec, B.bytes, hml, hown, fun w h => hts w (List.mem_cons_of_mem _ h), fun q h => Or.inr h, hK⟩ ?_ s.heap [] _ hP hD0.self va_S.rf (lv_entry av hle)
  intro pc lv h01 hd H locs ls hP hD hS _
  exact W.zret (v := r) B.exec B.bytes hr (z01_nar h01) (fun t ht hW => ⟨⟨r, (), rfl, rfl, by rw [ht]; exact hP, va_K.moved hW.alike hK, hD⟩, hS.F ht⟩) hS.2.2 hd
theorem MV_of {y : MethodName} {maxL : Nat} {rm : Room} {av : List Value} (own : String) (hyc : y.cls = own) (hy : plainName y.cls = true) (hle : (lg_sl av).length ≤ maxL)
    (body : ∀ p e s m below meth c A Q, SC p s m av.toArray c cc maxL own A D tys → (∀ (pc : Nat) (lv : List (Nat × Value)), decode cc pc = .ok (.return_, 1) → SJ p l e rm s m av.toArray below meth c A D maxL Q w' lv pc []) → SJ p l e rm s m av.toArray below meth c A D maxL Q w (lv_args 0 av) 0 []) :
    MV l y (.code y cc maxL none :: gw) rm D tys av w w' := by
  intro sz
  refine Met.ofW (cc := cc) (maxL := maxL) (ret := none) hy rfl ?_
  intro p e s m args below meth c s₁ B hml hv
  obtain ⟨rfl, hsz, hP, hK, hD0⟩ := hv
  subst hsz
  have hts := atoms_spec (ws := .code y cc maxL none :: gw) B.pre
  have hown : s.vm.findClass own = some m.cls := by rw [← hyc]; exact findClass_of_methodNamed B.named
  have hlocks := B.notSynchronized
  have hr := B.returns
  rw [lg_entry_eq]
  refine body p e s m below meth c (va_A w s.heap.size) _ ⟨B.exec, B.bytes, hml, hown, fun w h => hts w (List.mem_cons_of_mem _ h), fun q h => Or.inr h, hK⟩ ?_ s.heap [] _ hP hD0.self va_S.rf (lv_entry av hle)
  intro pc lv hd H locs ls hP hD hS _
  exact W.vret B.exec B.bytes hr (fun t ht hW => ⟨⟨(), rfl, trivial, by rw [ht]; exact hP, va_K.moved hW.alike hK, hD⟩, hS.F ht⟩) hS.2.2 hd
theorem sj_iconst (C : SC p s m args c cc nL own A D tys) {n : Int} {v : Int32} (hd : decode cc pc = .ok (.iconst n, 1)) (hv : Int32.ofInt n = v) (k : SJ p l e R s m args below meth c A D nL Q w lv (pc + 1) (.int v :: st)) : SJ p l e R s m args below meth c A D nL Q w lv pc st := fun H locs ls hP hD hS hl => lv_iconst C.1 C.2.1 hd hv (k H locs ls hP hD hS hl)
theorem sj_bipush (C : SC p s m args c cc nL own A D tys) {n : Int} {v : Int32} (hd : decode cc pc = .ok (.bipush n, 2)) (hv : (Int8.ofInt n).toInt32 = v) (k : SJ p l e R s m args below meth c A D nL Q w lv (pc + 2) (.int v :: st)) : SJ p l e R s m args below meth c A D nL Q w lv pc st := fun H locs ls hP hD hS hl => lv_bipush C.1 C.2.1 hd hv (k H locs ls hP hD hS hl)
theorem sj_sipush (C : SC p s m args c cc nL own A D tys) {n : Int} {v : Int32} (hd : decode cc pc = .ok (.sipush n, 3)) (hv : (Int16.ofInt n).toInt32 = v) (k : SJ p l e R s m args below meth c A D nL Q w lv (pc + 3) (.int v :: st)) : SJ p l e R s m args below meth c A D nL Q w lv pc st := fun H locs ls hP hD hS hl => lv_sipush C.1 C.2.1 hd hv (k H locs ls hP hD hS hl)
theorem sj_ldc (C : SC p s m args c cc nL own A D tys) {i : Nat} {v : Int32} (hw : Cond.constant own i v ∈ gw) (hd : decode cc pc = .ok (.ldc i, 2)) (k : SJ p l e R s m args below meth c A D nL Q w lv (pc + 2) (.int v :: st)) : SJ p l e R s m args below meth c A D nL Q w lv pc st := fun H locs ls hP hD hS hl => lv_ldc C.1 C.2.1 C.2.2.2.1 (C.2.2.2.2.1 _ hw) hd (k H locs ls hP hD hS hl)
theorem sj_iload_n (C : SC p s m args c cc nL own A D tys) {f : Fin 4} {i : Nat} {x : Int32} (hd : decode cc pc = .ok (.iload_n f, 1)) (j : Nat) (hj : lv[j]? = some (i, .int x)) (hi : (f : Nat) = i) (k : SJ p l e R s m args below meth c A D nL Q w lv (pc + 1) (.int x :: st)) : SJ p l e R s m args below meth c A D nL Q w lv pc st := fun H locs ls hP hD hS hl => lv_iload_n C.1 C.2.1 hd hi (lv_at hl j hj) (k H locs ls hP hD hS hl)
theorem sj_iload (C : SC p s m args c cc nL own A D tys) {i : Nat} {x : Int32} (hd : decode cc pc = .ok (.iload i, 2)) (j : Nat) (hj : lv[j]? = some (i, .int x)) (k : SJ p l e R s m args below meth c A D nL Q w lv (pc + 2) (.int x :: st)) : SJ p l e R s m args below meth c A D nL Q w lv pc st := fun H locs ls hP hD hS hl => lv_iload C.1 C.2.1 hd (lv_at hl j hj) (k H locs ls hP hD hS hl)
theorem sj_aload_n (C : SC p s m args c cc nL own A D tys) {f : Fin 4} {i : Nat} {x : Nat} (hd : decode cc pc = .ok (.aload_n f, 1)) (j : Nat) (hj : lv[j]? = some (i, .ref x)) (hi : (f : Nat) = i) (k : SJ p l e R s m args below meth c A D nL Q w lv (pc + 1) (.ref x :: st)) : SJ p l e R s m args below meth c A D nL Q w lv pc st := fun H locs ls hP hD hS hl => lv_aload_n C.1 C.2.1 hd hi (lv_at hl j hj) (k H locs ls hP hD hS hl)
theorem sj_istore_n (C : SC p s m args c cc nL own A D tys) {f : Fin 4} {i : Nat} {x : Int32} (hd : decode cc pc = .ok (.istore_n f, 1)) (hi : (f : Nat) = i) (hn : i < nL) (hl' : (i, Value.int x) :: lv.filter (fun q => !(q.1 == i) && !(q.1 + 1 == i && q.2.category == 2)) = lv') (k : SJ p l e R s m args below meth c A D nL Q w lv' (pc + 1) st) : SJ p l e R s m args below meth c A D nL Q w lv pc (.int x :: st) := fun H locs ls hP hD hS hl => lv_istore_n C.1 C.2.1 hd hi hl hn hl' (fun ls' h' => k H locs ls' hP hD hS h')
theorem sj_istore (C : SC p s m args c cc nL own A D tys) {i : Nat} {x : Int32} (hd : decode cc pc = .ok (.istore i, 2)) (hn : i < nL) (hl' : (i, Value.int x) :: lv.filter (fun q => !(q.1 == i) && !(q.1 + 1 == i && q.2.category == 2)) = lv') (k : SJ p l e R s m args below meth c A D nL Q w lv' (pc + 2) st) : SJ p l e R s m args below meth c A D nL Q w lv pc (.int x :: st) := fun H locs ls hP hD hS hl => lv_istore C.1 C.2.1 hd hl hn hl' (fun ls' h' => k H locs ls' hP hD hS h')
theorem sj_iinc (C : SC p s m args c cc nL own A D tys) {i : Nat} {n : Int} {x v : Int32} (hd : decode cc pc = .ok (.iinc i n, 3)) (j : Nat) (hj : lv[j]? = some (i, .int x)) (hv : x + Int32.ofInt n = v) (hn : i < nL) (hl' : (i, Value.int v) :: lv.filter (fun q => !(q.1 == i) && !(q.1 + 1 == i && q.2.category == 2)) = lv') (k : SJ p l e R s m args below meth c A D nL Q w lv' (pc + 3) st) : SJ p l e R s m args below meth c A D nL Q w lv pc st := fun H locs ls hP hD hS hl => lv_iinc C.1 C.2.1 hd hl hj hv hn hl' (fun ls' h' => k H locs ls' hP hD hS h')
theorem sj_iadd (C : SC p s m args c cc nL own A D tys) {x y : Int32} (hd : decode cc pc = .ok (.iadd, 1)) (k : SJ p l e R s m args below meth c A D nL Q w lv (pc + 1) (.int (x + y) :: st)) : SJ p l e R s m args below meth c A D nL Q w lv pc (.int y :: .int x :: st) := fun H locs ls hP hD hS hl => lv_iadd C.1 C.2.1 hd (k H locs ls hP hD hS hl)
theorem sj_isub (C : SC p s m args c cc nL own A D tys) {x y : Int32} (hd : decode cc pc = .ok (.isub, 1)) (k : SJ p l e R s m args below meth c A D nL Q w lv (pc + 1) (.int (x - y) :: st)) : SJ p l e R s m args below meth c A D nL Q w lv pc (.int y :: .int x :: st) := fun H locs ls hP hD hS hl => lv_isub C.1 C.2.1 hd (k H locs ls hP hD hS hl)
theorem sj_imul (C : SC p s m args c cc nL own A D tys) {x y : Int32} (hd : decode cc pc = .ok (.imul, 1)) (k : SJ p l e R s m args below meth c A D nL Q w lv (pc + 1) (.int (x * y) :: st)) : SJ p l e R s m args below meth c A D nL Q w lv pc (.int y :: .int x :: st) := fun H locs ls hP hD hS hl => lv_imul C.1 C.2.1 hd (k H locs ls hP hD hS hl)
theorem sj_iand (C : SC p s m args c cc nL own A D tys) {x y : Int32} (hd : decode cc pc = .ok (.iand, 1)) (k : SJ p l e R s m args below meth c A D nL Q w lv (pc + 1) (.int (x &&& y) :: st)) : SJ p l e R s m args below meth c A D nL Q w lv pc (.int y :: .int x :: st) := fun H locs ls hP hD hS hl => lv_iand C.1 C.2.1 hd (k H locs ls hP hD hS hl)
theorem sj_ior (C : SC p s m args c cc nL own A D tys) {x y : Int32} (hd : decode cc pc = .ok (.ior, 1)) (k : SJ p l e R s m args below meth c A D nL Q w lv (pc + 1) (.int (x ||| y) :: st)) : SJ p l e R s m args below meth c A D nL Q w lv pc (.int y :: .int x :: st) := fun H locs ls hP hD hS hl => lv_ior C.1 C.2.1 hd (k H locs ls hP hD hS hl)
theorem sj_ishl (C : SC p s m args c cc nL own A D tys) {x y : Int32} (hd : decode cc pc = .ok (.ishl, 1)) (k : SJ p l e R s m args below meth c A D nL Q w lv (pc + 1) (.int (x <<< (y &&& 31)) :: st)) : SJ p l e R s m args below meth c A D nL Q w lv pc (.int y :: .int x :: st) := fun H locs ls hP hD hS hl => lv_ishl C.1 C.2.1 hd (k H locs ls hP hD hS hl)
theorem sj_ishr (C : SC p s m args c cc nL own A D tys) {x y : Int32} (hd : decode cc pc = .ok (.ishr, 1)) (k : SJ p l e R s m args below meth c A D nL Q w lv (pc + 1) (.int (x >>> (y &&& 31)) :: st)) : SJ p l e R s m args below meth c A D nL Q w lv pc (.int y :: .int x :: st) := fun H locs ls hP hD hS hl => lv_ishr C.1 C.2.1 hd (k H locs ls hP hD hS hl)
theorem sj_idiv (C : SC p s m args c cc nL own A D tys) {x y : Int32} (hd : decode cc pc = .ok (.idiv, 1)) (hne : ¬ y = 0) (k : SJ p l e R s m args below meth c A D nL Q w lv (pc + 1) (.int (x / y) :: st)) : SJ p l e R s m args below meth c A D nL Q w lv pc (.int y :: .int x :: st) := fun H locs ls hP hD hS hl => lv_idiv C.1 C.2.1 hd hne (k H locs ls hP hD hS hl)
theorem sj_irem (C : SC p s m args c cc nL own A D tys) {x y : Int32} (hd : decode cc pc = .ok (.irem, 1)) (hne : ¬ y = 0) (k : SJ p l e R s m args below meth c A D nL Q w lv (pc + 1) (.int (x - x / y * y) :: st)) : SJ p l e R s m args below meth c A D nL Q w lv pc (.int y :: .int x :: st) := fun H locs ls hP hD hS hl => lv_irem C.1 C.2.1 hd hne (k H locs ls hP hD hS hl)
theorem sj_dup (C : SC p s m args c cc nL own A D tys) {va : Value} (hd : decode cc pc = .ok (.dup, 1)) (hva : va.category = 1) (k : SJ p l e R s m args below meth c A D nL Q w lv (pc + 1) (va :: va :: st)) : SJ p l e R s m args below meth c A D nL Q w lv pc (va :: st) := fun H locs ls hP hD hS hl => lv_dup C.1 C.2.1 hd hva (k H locs ls hP hD hS hl)
theorem sj_dup2 (C : SC p s m args c cc nL own A D tys) {va vb : Value} (hd : decode cc pc = .ok (.dup2, 1)) (hva : va.category = 1) (hvb : vb.category = 1) (k : SJ p l e R s m args below meth c A D nL Q w lv (pc + 1) (va :: vb :: va :: vb :: st)) : SJ p l e R s m args below meth c A D nL Q w lv pc (va :: vb :: st) := fun H locs ls hP hD hS hl => lv_dup2_11 C.1 C.2.1 hd hva hvb (k H locs ls hP hD hS hl)
theorem sj_goto (C : SC p s m args c cc nL own A D tys) {off : Int} (tgt : Nat) (hd : decode cc pc = .ok (.goto off, 3)) (ht : (pc : Int) + off = (tgt : Int)) (k : SJ p l e R s m args below meth c A D nL Q w lv tgt st) : SJ p l e R s m args below meth c A D nL Q w lv pc st := fun H locs ls hP hD hS hl => lv_goto C.1 C.2.1 hd ht (k H locs ls hP hD hS hl)
theorem sj_icmp_eq (C : SC p s m args c cc nL own A D tys) {x y : Int32} {off : Int} (tgt : Nat) (hd : decode cc pc = .ok (.if_icmp .eq off, 3)) (ht : (pc : Int) + off = (tgt : Int)) (kt : x = y → SJ p l e R s m args below meth c A D nL Q w lv tgt st) (kf : ¬ x = y → SJ p l e R s m args below meth c A D nL Q w lv (pc + 3) st) : SJ p l e R s m args below meth c A D nL Q w lv pc (.int y :: .int x :: st) := fun H locs ls hP hD hS hl => lv_icmp_eq C.1 C.2.1 hd ht (fun q => kt q H locs ls hP hD hS hl) (fun q => kf q H locs ls hP hD hS hl)
theorem sj_icmp_ne (C : SC p s m args c cc nL own A D tys) {x y : Int32} {off : Int} (tgt : Nat) (hd : decode cc pc = .ok (.if_icmp .ne off, 3)) (ht : (pc : Int) + off = (tgt : Int)) (kt : ¬ x = y → SJ p l e R s m args below meth c A D nL Q w lv tgt st) (kf : x = y → SJ p l e R s m args below meth c A D nL Q w lv (pc + 3) st) : SJ p l e R s m args below meth c A D nL Q w lv pc (.int y :: .int x :: st) := fun H locs ls hP hD hS hl => lv_icmp_ne C.1 C.2.1 hd ht (fun q => kt q H locs ls hP hD hS hl) (fun q => kf q H locs ls hP hD hS hl)
theorem sj_icmp_lt (C : SC p s m args c cc nL own A D tys) {x y : Int32} {off : Int} (tgt : Nat) (hd : decode cc pc = .ok (.if_icmp .lt off, 3)) (ht : (pc : Int) + off = (tgt : Int)) (kt : x < y → SJ p l e R s m args below meth c A D nL Q w lv tgt st) (kf : ¬ x < y → SJ p l e R s m args below meth c A D nL Q w lv (pc + 3) st) : SJ p l e R s m args below meth c A D nL Q w lv pc (.int y :: .int x :: st) := fun H locs ls hP hD hS hl => lv_icmp_lt C.1 C.2.1 hd ht (fun q => kt q H locs ls hP hD hS hl) (fun q => kf q H locs ls hP hD hS hl)
theorem sj_icmp_ge (C : SC p s m args c cc nL own A D tys) {x y : Int32} {off : Int} (tgt : Nat) (hd : decode cc pc = .ok (.if_icmp .ge off, 3)) (ht : (pc : Int) + off = (tgt : Int)) (kt : y ≤ x → SJ p l e R s m args below meth c A D nL Q w lv tgt st) (kf : ¬ y ≤ x → SJ p l e R s m args below meth c A D nL Q w lv (pc + 3) st) : SJ p l e R s m args below meth c A D nL Q w lv pc (.int y :: .int x :: st) := fun H locs ls hP hD hS hl => lv_icmp_ge C.1 C.2.1 hd ht (fun q => kt q H locs ls hP hD hS hl) (fun q => kf q H locs ls hP hD hS hl)
theorem sj_icmp_gt (C : SC p s m args c cc nL own A D tys) {x y : Int32} {off : Int} (tgt : Nat) (hd : decode cc pc = .ok (.if_icmp .gt off, 3)) (ht : (pc : Int) + off = (tgt : Int)) (kt : y < x → SJ p l e R s m args below meth c A D nL Q w lv tgt st) (kf : ¬ y < x → SJ p l e R s m args below meth c A D nL Q w lv (pc + 3) st) : SJ p l e R s m args below meth c A D nL Q w lv pc (.int y :: .int x :: st) := fun H locs ls hP hD hS hl => lv_icmp_gt C.1 C.2.1 hd ht (fun q => kt q H locs ls hP hD hS hl) (fun q => kf q H locs ls hP hD hS hl)
theorem sj_icmp_le (C : SC p s m args c cc nL own A D tys) {x y : Int32} {off : Int} (tgt : Nat) (hd : decode cc pc = .ok (.if_icmp .le off, 3)) (ht : (pc : Int) + off = (tgt : Int)) (kt : x ≤ y → SJ p l e R s m args below meth c A D nL Q w lv tgt st) (kf : ¬ x ≤ y → SJ p l e R s m args below meth c A D nL Q w lv (pc + 3) st) : SJ p l e R s m args below meth c A D nL Q w lv pc (.int y :: .int x :: st) := fun H locs ls hP hD hS hl => lv_icmp_le C.1 C.2.1 hd ht (fun q => kt q H locs ls hP hD hS hl) (fun q => kf q H locs ls hP hD hS hl)
theorem sj_if_eq (C : SC p s m args c cc nL own A D tys) {x : Int32} {off : Int} (tgt : Nat) (hd : decode cc pc = .ok (.ifCond .eq off, 3)) (ht : (pc : Int) + off = (tgt : Int)) (kt : x = 0 → SJ p l e R s m args below meth c A D nL Q w lv tgt st) (kf : ¬ x = 0 → SJ p l e R s m args below meth c A D nL Q w lv (pc + 3) st) : SJ p l e R s m args below meth c A D nL Q w lv pc (.int x :: st) := fun H locs ls hP hD hS hl => lv_if_eq C.1 C.2.1 hd ht (fun q => kt q H locs ls hP hD hS hl) (fun q => kf q H locs ls hP hD hS hl)
theorem sj_if_ne (C : SC p s m args c cc nL own A D tys) {x : Int32} {off : Int} (tgt : Nat) (hd : decode cc pc = .ok (.ifCond .ne off, 3)) (ht : (pc : Int) + off = (tgt : Int)) (kt : ¬ x = 0 → SJ p l e R s m args below meth c A D nL Q w lv tgt st) (kf : x = 0 → SJ p l e R s m args below meth c A D nL Q w lv (pc + 3) st) : SJ p l e R s m args below meth c A D nL Q w lv pc (.int x :: st) := fun H locs ls hP hD hS hl => lv_if_ne C.1 C.2.1 hd ht (fun q => kt q H locs ls hP hD hS hl) (fun q => kf q H locs ls hP hD hS hl)
theorem sj_if_lt (C : SC p s m args c cc nL own A D tys) {x : Int32} {off : Int} (tgt : Nat) (hd : decode cc pc = .ok (.ifCond .lt off, 3)) (ht : (pc : Int) + off = (tgt : Int)) (kt : x < 0 → SJ p l e R s m args below meth c A D nL Q w lv tgt st) (kf : ¬ x < 0 → SJ p l e R s m args below meth c A D nL Q w lv (pc + 3) st) : SJ p l e R s m args below meth c A D nL Q w lv pc (.int x :: st) := fun H locs ls hP hD hS hl => lv_if_lt C.1 C.2.1 hd ht (fun q => kt q H locs ls hP hD hS hl) (fun q => kf q H locs ls hP hD hS hl)
theorem sj_if_ge (C : SC p s m args c cc nL own A D tys) {x : Int32} {off : Int} (tgt : Nat) (hd : decode cc pc = .ok (.ifCond .ge off, 3)) (ht : (pc : Int) + off = (tgt : Int)) (kt : 0 ≤ x → SJ p l e R s m args below meth c A D nL Q w lv tgt st) (kf : ¬ 0 ≤ x → SJ p l e R s m args below meth c A D nL Q w lv (pc + 3) st) : SJ p l e R s m args below meth c A D nL Q w lv pc (.int x :: st) := fun H locs ls hP hD hS hl => lv_if_ge C.1 C.2.1 hd ht (fun q => kt q H locs ls hP hD hS hl) (fun q => kf q H locs ls hP hD hS hl)
theorem sj_if_gt (C : SC p s m args c cc nL own A D tys) {x : Int32} {off : Int} (tgt : Nat) (hd : decode cc pc = .ok (.ifCond .gt off, 3)) (ht : (pc : Int) + off = (tgt : Int)) (kt : 0 < x → SJ p l e R s m args below meth c A D nL Q w lv tgt st) (kf : ¬ 0 < x → SJ p l e R s m args below meth c A D nL Q w lv (pc + 3) st) : SJ p l e R s m args below meth c A D nL Q w lv pc (.int x :: st) := fun H locs ls hP hD hS hl => lv_if_gt C.1 C.2.1 hd ht (fun q => kt q H locs ls hP hD hS hl) (fun q => kf q H locs ls hP hD hS hl)
theorem sj_if_le (C : SC p s m args c cc nL own A D tys) {x : Int32} {off : Int} (tgt : Nat) (hd : decode cc pc = .ok (.ifCond .le off, 3)) (ht : (pc : Int) + off = (tgt : Int)) (kt : x ≤ 0 → SJ p l e R s m args below meth c A D nL Q w lv tgt st) (kf : ¬ x ≤ 0 → SJ p l e R s m args below meth c A D nL Q w lv (pc + 3) st) : SJ p l e R s m args below meth c A D nL Q w lv pc (.int x :: st) := fun H locs ls hP hD hS hl => lv_if_le C.1 C.2.1 hd ht (fun q => kt q H locs ls hP hD hS hl) (fun q => kf q H locs ls hP hD hS hl)
theorem sj_tabIn (C : SC p s m args c cc nL own A D tys) {dflt lo hi : Int} {offs : Array Int} {len : Nat} {x : Int32} {off : Int} (tgt : Nat) (z : Int32) (hz : x = z) (hd : decode cc pc = .ok (.tableswitch dflt lo hi offs, len)) (h1 : ¬ z.toInt < lo) (h2 : ¬ hi < z.toInt) (ho : offs[(z.toInt - lo).toNat]? = some off) (ht : (pc : Int) + off = (tgt : Int)) (k : SJ p l e R s m args below meth c A D nL Q w lv tgt st) : SJ p l e R s m args below meth c A D nL Q w lv pc (.int x :: st) := fun H locs ls hP hD hS hl => by
  subst hz
  exact lv_tableIn C.1 C.2.1 hd h1 h2 ho ht (k H locs ls hP hD hS hl)
theorem sj_tabOut (C : SC p s m args c cc nL own A D tys) {dflt lo hi : Int} {offs : Array Int} {len : Nat} {x : Int32} (tgt : Nat) (hd : decode cc pc = .ok (.tableswitch dflt lo hi offs, len)) (h : x.toInt < lo ∨ hi < x.toInt) (ht : (pc : Int) + dflt = (tgt : Int)) (k : SJ p l e R s m args below meth c A D nL Q w lv tgt st) : SJ p l e R s m args below meth c A D nL Q w lv pc (.int x :: st) := fun H locs ls hP hD hS hl => lv_tableOut C.1 C.2.1 hd h ht (k H locs ls hP hD hS hl)
theorem sj_lookup (C : SC p s m args c cc nL own A D tys) {dflt : Int} {ps : Array (Int × Int)} {len : Nat} {x : Int32} {off : Int} (tgt : Nat) (hd : decode cc pc = .ok (.lookupswitch dflt ps, len)) (hp : (ps.toList.zip (ps.toList.drop 1)).all (fun (a, next) => a.1 < next.1) = true) (ho : Op.lookupswitch.offset ps.toList dflt x.toInt = off) (ht : (pc : Int) + off = (tgt : Int)) (k : SJ p l e R s m args below meth c A D nL Q w lv tgt st) : SJ p l e R s m args below meth c A D nL Q w lv pc (.int x :: st) := fun H locs ls hP hD hS hl => lv_lookup C.1 C.2.1 hd hp ho ht (k H locs ls hP hD hS hl)
theorem sj_get (C : SC p s m args c cc nL own A D tys) {ref Cn : String} {T : u_T} {N ci i a : Nat} (hin : ∀ w ∈ u_ws Cn T N, w ∈ gw) (q0 : Nat) {fs : List Value} (he : w[q0]? = some (a, .inr (ci, fs))) (hc : cl_all[ci]? = some (Cn, T, N)) (f : Nat) (hk : f < N) (hw : Cond.fieldLink own i ref (T f).2.1 (T f).2.2.1 ∈ gw) (href : (T f).1 = ref) {v : Value} (hv : fs[f]? = some v) (hd : decode cc pc = .ok (.getfield i, 3)) (k : SJ p l e R s m args below meth c A D nL Q w lv (pc + 3) (v :: st)) : SJ p l e R s m args below meth c A D nL Q w lv pc (.ref a :: st) := fun H locs ls hP hD hS hl => by
  subst href
  exact va_get C.1 C.2.1 C.2.2.2.2.1 hin C.2.2.2.1 C.2.2.2.2.2.2 hP q0 he hc f hk (C.2.2.2.2.1 _ hw) (fun _ h => h) hv hd (k H locs ls hP hD hS hl)
theorem sj_put (C : SC p s m args c cc nL own A D tys) {ref Cn : String} {T : u_T} {N ci i a : Nat} (hin : ∀ w ∈ u_ws Cn T N, w ∈ gw) (ty0 : Nat → FieldType) (hty : ∀ k, k < N → parseFieldDescriptor (T k).2.2.1 = some (ty0 k)) (hnm : ∀ a, a < N → ∀ b, b < N → a ≠ b → (T a).2.1 ≠ (T b).2.1) (q0 : Nat) {fs : List Value} (he : w[q0]? = some (a, .inr (ci, fs))) (hc : cl_all[ci]? = some (Cn, T, N)) (f : Nat) (hk : f < N) (hw : Cond.fieldLink own i ref (T f).2.1 (T f).2.2.1 ∈ gw) (href : (T f).1 = ref) (hfin : (T f).2.2.2 = false) {v : Value} (hn : narrow (ty0 f) v = v) (hfit : fits (ty0 f) v = true) (hlen : f < fs.length) (hd : decode cc pc = .ok (.putfield i, 3)) (hw' : w.set q0 (a, .inr (ci, fs.set f v)) = w') (k : SJ p l e R s m args below meth c A D nL Q w' lv (pc + 3) st) : SJ p l e R s m args below meth c A D nL Q w lv pc (v :: .ref a :: st) := fun H locs ls hP hD hS hl => by
  subst href
  subst hw'
  exact va_put C.1 C.2.1 C.2.2.2.2.1 hin ty0 hty hnm C.2.2.2.1 C.2.2.2.2.2.2 hP hD hS q0 he hc f hk (C.2.2.2.2.1 _ hw) (fun _ h => h) hfin (hty f hk) hn hfit hlen hd (fun H1 l1 hP hD hS => k H1 l1 ls hP hD hS hl)
theorem sj_iald (C : SC p s m args c cc nL own A D tys) {a : Nat} (q0 t0 : Nat) {cA : ClassId} {n : Nat} {f : Nat → Int32} (ha : w[q0]? = some (a, .inl (cA, n, .inl f))) (ht : tys[t0]? = some (cA, .int)) {i : Int32} (hin : ¬ (i < 0 ∨ n ≤ i.toNatClampNeg)) {j : Nat} (hj : i.toNatClampNeg = j) (hd : decode cc pc = .ok (.iaload, 1)) (k : SJ p l e R s m args below meth c A D nL Q w lv (pc + 1) (.int (f j) :: st)) : SJ p l e R s m args below meth c A D nL Q w lv pc (.int i :: .ref a :: st) := fun H locs ls hP hD hS hl => by
  subst hj
  exact va_iald C.1 C.2.1 C.2.2.2.2.2.2 hP q0 t0 ha ht hin hd (k H locs ls hP hD hS hl)
theorem sj_zald (C : SC p s m args c cc nL own A D tys) {a : Nat} (q0 t0 : Nat) {cA : ClassId} {n : Nat} {f : Nat → Int32} (ha : w[q0]? = some (a, .inl (cA, n, .inl f))) (ht : tys[t0]? = some (cA, .boolean)) {i : Int32} (hin : ¬ (i < 0 ∨ n ≤ i.toNatClampNeg)) {j : Nat} (hj : i.toNatClampNeg = j) (hd : decode cc pc = .ok (.baload, 1)) (k : SJ p l e R s m args below meth c A D nL Q w lv (pc + 1) (.int (f j) :: st)) : SJ p l e R s m args below meth c A D nL Q w lv pc (.int i :: .ref a :: st) := fun H locs ls hP hD hS hl => by
  subst hj
  exact va_zald C.1 C.2.1 C.2.2.2.2.2.2 hP q0 t0 ha ht hin hd (k H locs ls hP hD hS hl)
theorem sj_iast (C : SC p s m args c cc nL own A D tys) {a : Nat} (q0 t0 : Nat) {cA : ClassId} {n : Nat} {f : Nat → Int32} (ha : w[q0]? = some (a, .inl (cA, n, .inl f))) (ht : tys[t0]? = some (cA, .int)) {i x : Int32} (hin : ¬ (i < 0 ∨ n ≤ i.toNatClampNeg)) {j : Nat} (hj : i.toNatClampNeg = j) (hd : decode cc pc = .ok (.iastore, 1)) (hw' : w.set q0 (a, .inl (cA, n, .inl (upd f j x))) = w') (k : SJ p l e R s m args below meth c A D nL Q w' lv (pc + 1) st) : SJ p l e R s m args below meth c A D nL Q w lv pc (.int x :: .int i :: .ref a :: st) := fun H locs ls hP hD hS hl => by
  subst hj
  subst hw'
  exact va_iast C.1 C.2.1 C.2.2.2.2.2.2 hP hD hS q0 t0 ha ht hin hd (fun H1 l1 hP hD hS => k H1 l1 ls hP hD hS hl)
theorem sj_zast (C : SC p s m args c cc nL own A D tys) {a : Nat} (q0 t0 : Nat) {cA : ClassId} {n : Nat} {f : Nat → Int32} (ha : w[q0]? = some (a, .inl (cA, n, .inl f))) (ht : tys[t0]? = some (cA, .boolean)) {i x : Int32} (hx : x = 0 ∨ x = 1) (hin : ¬ (i < 0 ∨ n ≤ i.toNatClampNeg)) {j : Nat} (hj : i.toNatClampNeg = j) (hd : decode cc pc = .ok (.bastore, 1)) (hw' : w.set q0 (a, .inl (cA, n, .inl (upd f j x))) = w') (k : SJ p l e R s m args below meth c A D nL Q w' lv (pc + 1) st) : SJ p l e R s m args below meth c A D nL Q w lv pc (.int x :: .int i :: .ref a :: st) := fun H locs ls hP hD hS hl => by
  subst hj
  subst hw'
  refine va_zast C.1 C.2.1 C.2.2.2.2.2.2 hP hD hS q0 t0 ha ht hin hd (fun H1 l1 hP hD hS => ?_)
  rw [z01_vp hx] at hP hD
  exact k H1 l1 ls hP hD hS hl
theorem sj_alen (C : SC p s m args c cc nL own A D tys) {a : Nat} (q0 t0 : Nat) {cA : ClassId} {x : vp_A} (ha : w[q0]? = some (a, .inl (cA, x))) {ty : FieldType} (ht : tys[t0]? = some (cA, ty)) {v : Int32} (hv : Int32.ofNat x.1 = v) (hd : decode cc pc = .ok (.arraylength, 1)) (k : SJ p l e R s m args below meth c A D nL Q w lv (pc + 1) (.int v :: st)) : SJ p l e R s m args below meth c A D nL Q w lv pc (.ref a :: st) := fun H locs ls hP hD hS hl => va_alen C.1 C.2.1 C.2.2.2.2.2.2 hP q0 t0 ha ht hv hd (k H locs ls hP hD hS hl)
theorem sj_aald (C : SC p s m args c cc nL own A D tys) {a : Nat} (q0 t0 : Nat) {cA : ClassId} {Cn : String} {n : Nat} {f : Nat → Option Nat} (ha : w[q0]? = some (a, .inl (cA, n, .inr (.inr (.inr (.inr f)))))) (ht : tys[t0]? = some (cA, .object Cn)) {i : Int32} (hin : ¬ (i < 0 ∨ n ≤ i.toNatClampNeg)) {b : Nat} (hj : f i.toNatClampNeg = some b) (hd : decode cc pc = .ok (.aaload, 1)) (k : SJ p l e R s m args below meth c A D nL Q w lv (pc + 1) (.ref b :: st)) : SJ p l e R s m args below meth c A D nL Q w lv pc (.int i :: .ref a :: st) := fun H locs ls hP hD hS hl => by
  refine va_aldq C.1 C.2.1 C.2.2.2.2.2.2 hP q0 t0 ha ht hin hd ?_
  rw [hj]
  exact k H locs ls hP hD hS hl
theorem sj_mmin (C : SC p s m args c cc nL own A D tys) {i : Nat} (h1 : Cond.methodLink own i Lib.Math.min.name ∈ gw) (h2 : Cond.static Lib.Math.min.name ∈ gw) (h3 : Cond.initialized "java/lang/Math" ∈ gw) (h4 : Cond.code Lib.Math.min.name Lib.Math.min.code 2 (some .int) ∈ gw) (hf : 1 ≤ R.frames) (hloc : (st.map fun v => v.category).sum + 13 ≤ R.locals) {x y : Int32} (hd : decode cc pc = .ok (.invokestatic i, 3)) (k : SJ p l e R s m args below meth c A D nL Q w lv (pc + 3) (.int (if y < x then y else x) :: st)) : SJ p l e R s m args below meth c A D nL Q w lv pc (.int y :: .int x :: st) := fun H locs ls hP hD hS hl => va_mmin C.1 C.2.1 (by rw [C.2.2.1]; exact hl.1.symm) C.2.2.2.1 (C.2.2.2.2.1 _ h1) (C.2.2.2.2.1 _ h2) (C.2.2.2.2.1 _ h3) (C.2.2.2.2.1 _ h4) hf hloc (Nat.zero_le _) (Nat.zero_le _) hd (k H locs ls hP hD hS hl)
theorem sj_mmax (C : SC p s m args c cc nL own A D tys) {i : Nat} (h1 : Cond.methodLink own i Lib.Math.max.name ∈ gw) (h2 : Cond.static Lib.Math.max.name ∈ gw) (h3 : Cond.initialized "java/lang/Math" ∈ gw) (h4 : Cond.code Lib.Math.max.name Lib.Math.max.code 2 (some .int) ∈ gw) (hf : 1 ≤ R.frames) (hloc : (st.map fun v => v.category).sum + 13 ≤ R.locals) {x y : Int32} (hd : decode cc pc = .ok (.invokestatic i, 3)) (k : SJ p l e R s m args below meth c A D nL Q w lv (pc + 3) (.int (if x < y then y else x) :: st)) : SJ p l e R s m args below meth c A D nL Q w lv pc (.int y :: .int x :: st) := fun H locs ls hP hD hS hl => va_mmax C.1 C.2.1 (by rw [C.2.2.1]; exact hl.1.symm) C.2.2.2.1 (C.2.2.2.2.1 _ h1) (C.2.2.2.2.1 _ h2) (C.2.2.2.2.1 _ h3) (C.2.2.2.2.1 _ h4) hf hloc (Nat.zero_le _) (Nat.zero_le _) hd (k H locs ls hP hD hS hl)
theorem sj_lv (ks : List Nat) (h : lv_pick lv ks = lv') (k : SJ p l e R s m args below meth c A D nL Q w lv' pc st) : SJ p l e R s m args below meth c A D nL Q w lv pc st := fun H locs ls hP hD hS hl => k H locs ls hP hD hS (lv_sub hl ks h)
/-- what a call needs besides its words: the callee's cells at their places, before and behind it; the others (isR) are the same; its cells stay where they are -/
def PL (w wc wc' w1 : va_W) (isC isR : List Nat) (n : Nat) : Prop := isC.map (fun i => w[i]?) = wc.map some ∧ va_nd isC = true ∧ wc'.map (·.1) = wc.map (·.1) ∧ isC.map (fun i => w1[i]?) = wc'.map some ∧ isR.map (fun i => w1[i]?) = isR.map (fun i => w[i]?) ∧ w1.length = n ∧ ∀ k, k < n → k ∈ isC ∨ k ∈ isR
theorem mp_at {w wc : va_W} {is : List Nat} (h : is.map (fun i => w[i]?) = wc.map some) {k j : Nat} (hj : is[j]? = some k) : w[k]? = wc[j]? ∧ ∃ x, wc[j]? = some x := by
  have h1 : (is.map (fun i => w[i]?))[j]? = (wc.map some)[j]? := by rw [h]
  rw [List.getElem?_map, List.getElem?_map, hj] at h1
  cases hw : wc[j]? with
  | none => rw [hw] at h1; cases h1
  | some x => rw [hw] at h1; exact ⟨Option.some.inj h1, x, rfl⟩
theorem mq_at {w w1 : va_W} {is : List Nat} (h : is.map (fun i => w1[i]?) = is.map (fun i => w[i]?)) {k : Nat} (hk : k ∈ is) : w1[k]? = w[k]? := List.map_inj_left.mp h k hk
theorem PL_addr {w wc wc' w1 : va_W} {isC isR : List Nat} {n : Nat} (hp : PL w wc wc' w1 isC isR n) {k : Nat} {x : Nat × va_E} (h : w1[k]? = some x) : ∃ y, w[k]? = some y ∧ y.1 = x.1 := by
  obtain ⟨hC, hn, ha, hC1, hR, hl, hcov⟩ := hp
  have hk : k < n := by rw [← hl]; exact (List.getElem?_eq_some_iff.mp h).1
  rcases hcov k hk with hc | hc
  · obtain ⟨j, hj⟩ := List.getElem?_of_mem hc
    obtain ⟨e1, z, hz⟩ := mp_at hC1 hj
    obtain ⟨e2, y, hy⟩ := mp_at hC hj
    refine ⟨y, by rw [e2, hy], ?_⟩
    have e3 : (wc'.map (·.1))[j]? = (wc.map (·.1))[j]? := by rw [ha]
    rw [List.getElem?_map, List.getElem?_map, hz, hy] at e3
    have e4 : z = x := by rw [e1, hz] at h; exact Option.some.inj h
    rw [← e4]
    exact (Option.some.inj e3).symm
  · exact ⟨x, by rw [← mq_at hR hc]; exact h, rfl⟩
theorem rp_join {A0 : Nat → Prop} {D : va_G} {cl : List vw_C} {ws wc wc' w1 : va_W} {H H1 : Heap} {is isR : List Nat} {n : Nat} (hP : va_P D cl ws H) (hD : va_D A0 ws) (hp : PL ws wc wc' w1 is isR n) (hk : ∀ q : Nat, q < H.size → ¬ va_A wc H.size q → H1[q]? = H[q]?) (hP1 : va_P D cl wc' H1) : va_P D cl w1 H1 ∧ va_D A0 w1 := by
  have hp0 := hp
  obtain ⟨hC, hn, ha, hC1, hR, hl, hcov⟩ := hp
  constructor
  · intro k q hq
    have hkn : k < n := by rw [← hl]; exact (List.getElem?_eq_some_iff.mp hq).1
    by_cases hc : k ∈ is
    · obtain ⟨j, hj⟩ := List.getElem?_of_mem hc
      obtain ⟨e1, z, hz⟩ := mp_at hC1 hj
      exact hP1 j q (by rw [← e1]; exact hq)
    · have h1 : ws[k]? = some q := by rw [← mq_at hR ((hcov k hkn).resolve_left hc)]; exact hq
      have hat := hP k q h1
      have hnA : ¬ va_A wc H.size q.1 ∧ q.1 < H.size := by
        have hsz : q.1 < H.size := by
          rcases q with ⟨a, en⟩
          rcases en with ⟨cA, x⟩ | ⟨ci, fs⟩
          · exact (Array.getElem?_eq_some_iff.mp hat).1
          · obtain ⟨_, -, cell, hc, -⟩ := hat
            exact (Array.getElem?_eq_some_iff.mp hc).1
        refine ⟨?_, hsz⟩
        rintro (⟨j, en, hj⟩ | h)
        · have hjl : j < wc.length := (List.getElem?_eq_some_iff.mp hj).1
          have hlc : is.length = wc.length := by
            have h1 := congrArg List.length hC
            simpa using h1
          have hji : j < is.length := by omega
          have h4 : (is.map (fun i => ws[i]?))[j]? = some (some (q.1, en)) := by rw [hC, List.getElem?_map, hj]; rfl
          rw [List.getElem?_map, List.getElem?_eq_getElem hji] at h4
          have h5 : ws[is[j]]? = some (q.1, en) := Option.some.inj h4
          have := hD.1 k (is[j]) q (q.1, en) h1 h5 rfl
          exact hc (this ▸ List.getElem_mem hji)
        · omega
      have heq := hk q.1 hnA.2 hnA.1
      rcases q with ⟨a, en⟩
      rcases en with ⟨cA, x⟩ | ⟨ci, fs⟩
      · show H1[a]? = _
        rw [heq]
        exact hat
      · obtain ⟨r, hc, hrest⟩ := hat
        exact ⟨r, hc, hrest.kept heq⟩
  · constructor
    · intro i j p q hi hj hpq
      obtain ⟨y, hy, hyx⟩ := PL_addr hp0 hi
      obtain ⟨z, hz, hzx⟩ := PL_addr hp0 hj
      exact hD.1 i j y z hy hz (by rw [hyx, hzx, hpq])
    · intro k q hq
      obtain ⟨y, hy, hyx⟩ := PL_addr hp0 hq
      exact hyx ▸ hD.2 k y hy
theorem sj_callVi (C : SC p s m args c cc nL own A D tys) {y : MethodName} {bytes : ByteArray} {maxL idx n ci b q0 : Nat} {ret : Option FieldType} {rm : Room} {As st0 : List Value} {wc wc' w1 : va_W} {r : Int32} {fs : List Value} {q : vw_C} (Cn : String) (hM : MI l y (.code y bytes maxL ret :: gw) rm D tys (.ref b :: As) wc wc' r) (hml : Cond.methodLink own idx y ∈ gw) (him : Cond.instanceMethod y ∈ gw) (hsel : Cond.selects Cn y y ∈ gw) (hini : Cond.initialized Cn ∈ gw) (hco : Cond.code y bytes maxL ret ∈ gw) (hyd : y.cls = Cn ∧ y.cls ≠ "java/lang/invoke/MethodHandle" ∧ y.cls ≠ "java/lang/invoke/VarHandle" ∧ (parseMethodDescriptor y.desc).map (fun d => d.parameters.length) = some n) (hrc : rm.cells = 0) (hrs : rm.slots = 0) (hR : rm.frames + 1 ≤ R.frames ∧ 8 + (maxL + 11) + rm.locals ≤ R.locals) (isC isR : List Nat) {nw : Nat} (hp : PL w wc wc' w1 isC isR nw) (he : wc[q0]? = some (b, .inr (ci, fs))) (hc : cl_all[ci]? = some q) (hq : q.1 = Cn) (hn : As.length = n) (hst : st0 = As.reverse ++ .ref b :: st) (hsum : (st.map fun v => v.category).sum ≤ 8) (hd : decode cc pc = .ok (.invokevirtual idx, 3)) (k : SJ p l e R s m args below meth c A D nL Q w1 lv (pc + 3) (.int r :: st)) : SJ p l e R s m args below meth c A D nL Q w lv pc st0 := by
  intro H locs ls hP hD hS hl
  have hC := hp.1
  have hnC := hp.2.1
  obtain ⟨hx, hb, hmx, hown, hg, hA, hK⟩ := C
  subst hst
  subst hq
  have hPc := hP.sub (ws' := wc) isC (sk_fm _ _ _ hC)
  have hDc := hD.sub (ws' := wc) isC hnC hC
  have hFc := va_free (wc := wc) hD hS hA isC hC
  refine va_calli (va_runV (As := As) (rest := st) (Ts := gw) (n := n) (C := q.1) ⟨hx, hb, hmx, hown, hg⟩ (hM H.size) (cwV n hg (gw_app (a := [.methodLink own idx y, .instanceMethod y, .selects q.1 y y, .initialized q.1]) (fun w h => by simp only [List.mem_cons, List.not_mem_nil, or_false] at h; rcases h with rfl | rfl | rfl | rfl <;> assumption) hco) rfl hrc hrs hyd hR) ⟨fun a U g mk q => by obtain ⟨q0, q1, qP, qK, qD⟩ := q; exact ⟨q0, q1, qP, va_K.moved (u := U) (U := U.calling g mk a) (Vm.Alike.refl U.vm) qK, qD⟩, va_recv hK hPc hc he, fun U hU hW => ⟨rfl, by rw [hU], by rw [hU]; exact hPc, va_K.moved hW.alike hK, hDc.weaken (fun _ _ _ _ => trivial)⟩⟩ rfl hn hl.1 rfl (lv_room hsum) hd ⟨Nat.zero_le _, Nat.zero_le _⟩) hS (fun q _ h => hFc q h) hFc (fun r' u t H1 locs1 ht hvm hw hB hz1 hk1 hS => ?_)
  subst hw
  obtain ⟨hP1, hK1, hD1⟩ := hB
  rw [ht] at hP1
  obtain ⟨hP, hD⟩ := rp_join hP hD hp hk1 hP1
  exact k H1 locs1 ls hP hD hS hl
theorem sj_callVv (C : SC p s m args c cc nL own A D tys) {y : MethodName} {bytes : ByteArray} {maxL idx n ci b q0 : Nat} {rm : Room} {As st0 : List Value} {wc wc' w1 : va_W} {fs : List Value} {q : vw_C} (Cn : String) (hM : MV l y (.code y bytes maxL none :: gw) rm D tys (.ref b :: As) wc wc') (hml : Cond.methodLink own idx y ∈ gw) (him : Cond.instanceMethod y ∈ gw) (hsel : Cond.selects Cn y y ∈ gw) (hini : Cond.initialized Cn ∈ gw) (hco : Cond.code y bytes maxL none ∈ gw) (hyd : y.cls = Cn ∧ y.cls ≠ "java/lang/invoke/MethodHandle" ∧ y.cls ≠ "java/lang/invoke/VarHandle" ∧ (parseMethodDescriptor y.desc).map (fun d => d.parameters.length) = some n) (hrc : rm.cells = 0) (hrs : rm.slots = 0) (hR : rm.frames + 1 ≤ R.frames ∧ 8 + (maxL + 11) + rm.locals ≤ R.locals) (isC isR : List Nat) {nw : Nat} (hp : PL w wc wc' w1 isC isR nw) (he : wc[q0]? = some (b, .inr (ci, fs))) (hc : cl_all[ci]? = some q) (hq : q.1 = Cn) (hn : As.length = n) (hst : st0 = As.reverse ++ .ref b :: st) (hsum : (st.map fun v => v.category).sum ≤ 8) (hd : decode cc pc = .ok (.invokevirtual idx, 3)) (k : SJ p l e R s m args below meth c A D nL Q w1 lv (pc + 3) st) : SJ p l e R s m args below meth c A D nL Q w lv pc st0 := by
  intro H locs ls hP hD hS hl
  have hC := hp.1
  have hnC := hp.2.1
  obtain ⟨hx, hb, hmx, hown, hg, hA, hK⟩ := C
  subst hst
  subst hq
  have hPc := hP.sub (ws' := wc) isC (sk_fm _ _ _ hC)
  have hDc := hD.sub (ws' := wc) isC hnC hC
  have hFc := va_free (wc := wc) hD hS hA isC hC
  refine va_callv (va_runV (As := As) (rest := st) (Ts := gw) (n := n) (C := q.1) ⟨hx, hb, hmx, hown, hg⟩ (hM H.size) (cwV n hg (gw_app (a := [.methodLink own idx y, .instanceMethod y, .selects q.1 y y, .initialized q.1]) (fun w h => by simp only [List.mem_cons, List.not_mem_nil, or_false] at h; rcases h with rfl | rfl | rfl | rfl <;> assumption) hco) rfl hrc hrs hyd hR) ⟨fun a U g mk q => by obtain ⟨q0, q1, qP, qK, qD⟩ := q; exact ⟨q0, q1, qP, va_K.moved (u := U) (U := U.calling g mk a) (Vm.Alike.refl U.vm) qK, qD⟩, va_recv hK hPc hc he, fun U hU hW => ⟨rfl, by rw [hU], by rw [hU]; exact hPc, va_K.moved hW.alike hK, hDc.weaken (fun _ _ _ _ => trivial)⟩⟩ rfl hn hl.1 rfl (lv_room hsum) hd ⟨Nat.zero_le _, Nat.zero_le _⟩) hS (fun q _ h => hFc q h) hFc (fun u t H1 locs1 ht hvm hw hB hz1 hk1 hS => ?_)
  obtain ⟨hP1, hK1, hD1⟩ := hB
  rw [ht] at hP1
  obtain ⟨hP, hD⟩ := rp_join hP hD hp hk1 hP1
  exact k H1 locs1 ls hP hD hS hl
theorem sj_callSi (C : SC p s m args c cc nL own A D tys) {y : MethodName} {bytes : ByteArray} {maxL idx n : Nat} {ret : Option FieldType} {rm : Room} {As st0 : List Value} {wc wc' w1 : va_W} {r : Int32} (Cn : String) (hM : MI l y (.code y bytes maxL ret :: gw) rm D tys As wc wc' r) (hml : Cond.methodLink own idx y ∈ gw) (him : Cond.static y ∈ gw) (hini : Cond.initialized y.cls ∈ gw) (hco : Cond.code y bytes maxL ret ∈ gw) (hyd : y.cls = Cn ∧ y.cls ≠ "java/lang/invoke/MethodHandle" ∧ y.cls ≠ "java/lang/invoke/VarHandle" ∧ (parseMethodDescriptor y.desc).map (fun d => d.parameters.length) = some n) (hrc : rm.cells = 0) (hrs : rm.slots = 0) (hR : rm.frames + 1 ≤ R.frames ∧ 8 + (maxL + 11) + rm.locals ≤ R.locals) (isC isR : List Nat) {nw : Nat} (hp : PL w wc wc' w1 isC isR nw) (hn : As.length = n) (hst : st0 = As.reverse ++ st) (hsum : (st.map fun v => v.category).sum ≤ 8) (hd : decode cc pc = .ok (.invokestatic idx, 3)) (k : SJ p l e R s m args below meth c A D nL Q w1 lv (pc + 3) (.int r :: st)) : SJ p l e R s m args below meth c A D nL Q w lv pc st0 := by
  intro H locs ls hP hD hS hl
  have hC := hp.1
  have hnC := hp.2.1
  obtain ⟨hx, hb, hmx, hown, hg, hA, hK⟩ := C
  subst hst
  have hPc := hP.sub (ws' := wc) isC (sk_fm _ _ _ hC)
  have hDc := hD.sub (ws' := wc) isC hnC hC
  have hFc := va_free (wc := wc) hD hS hA isC hC
  refine va_calli (va_runS (As := As) (rest := st) (Ts := gw) (n := n) ⟨hx, hb, hmx, hown, hg⟩ (hM H.size) (va_cwS n hg (gw_app (a := [.methodLink own idx y, .static y, .initialized y.cls]) (fun w h => by simp only [List.mem_cons, List.not_mem_nil, or_false] at h; rcases h with rfl | rfl | rfl <;> assumption) hco) rfl hrc hrs hyd.2 hR) ⟨fun a U g mk q => by obtain ⟨q0, q1, qP, qK, qD⟩ := q; exact ⟨q0, q1, qP, va_K.moved (u := U) (U := U.calling g mk a) (Vm.Alike.refl U.vm) qK, qD⟩, fun U hU hW => ⟨rfl, by rw [hU], by rw [hU]; exact hPc, va_K.moved hW.alike hK, hDc.weaken (fun _ _ _ _ => trivial)⟩⟩ rfl hn hl.1 rfl (lv_room hsum) hd ⟨Nat.zero_le _, Nat.zero_le _⟩) hS (fun q _ h => hFc q h) hFc (fun r' u t H1 locs1 ht hvm hw hB hz1 hk1 hS => ?_)
  subst hw
  obtain ⟨hP1, hK1, hD1⟩ := hB
  rw [ht] at hP1
  obtain ⟨hP, hD⟩ := rp_join hP hD hp hk1 hP1
  exact k H1 locs1 ls hP hD hS hl
theorem sj_callSv (C : SC p s m args c cc nL own A D tys) {y : MethodName} {bytes : ByteArray} {maxL idx n : Nat} {rm : Room} {As st0 : List Value} {wc wc' w1 : va_W} (Cn : String) (hM : MV l y (.code y bytes maxL none :: gw) rm D tys As wc wc') (hml : Cond.methodLink own idx y ∈ gw) (him : Cond.static y ∈ gw) (hini : Cond.initialized y.cls ∈ gw) (hco : Cond.code y bytes maxL none ∈ gw) (hyd : y.cls = Cn ∧ y.cls ≠ "java/lang/invoke/MethodHandle" ∧ y.cls ≠ "java/lang/invoke/VarHandle" ∧ (parseMethodDescriptor y.desc).map (fun d => d.parameters.length) = some n) (hrc : rm.cells = 0) (hrs : rm.slots = 0) (hR : rm.frames + 1 ≤ R.frames ∧ 8 + (maxL + 11) + rm.locals ≤ R.locals) (isC isR : List Nat) {nw : Nat} (hp : PL w wc wc' w1 isC isR nw) (hn : As.length = n) (hst : st0 = As.reverse ++ st) (hsum : (st.map fun v => v.category).sum ≤ 8) (hd : decode cc pc = .ok (.invokestatic idx, 3)) (k : SJ p l e R s m args below meth c A D nL Q w1 lv (pc + 3) st) : SJ p l e R s m args below meth c A D nL Q w lv pc st0 := by
  intro H locs ls hP hD hS hl
  have hC := hp.1
  have hnC := hp.2.1
  obtain ⟨hx, hb, hmx, hown, hg, hA, hK⟩ := C
  subst hst
  have hPc := hP.sub (ws' := wc) isC (sk_fm _ _ _ hC)
  have hDc := hD.sub (ws' := wc) isC hnC hC
  have hFc := va_free (wc := wc) hD hS hA isC hC
  refine va_callv (va_runS (As := As) (rest := st) (Ts := gw) (n := n) ⟨hx, hb, hmx, hown, hg⟩ (hM H.size) (va_cwS n hg (gw_app (a := [.methodLink own idx y, .static y, .initialized y.cls]) (fun w h => by simp only [List.mem_cons, List.not_mem_nil, or_false] at h; rcases h with rfl | rfl | rfl <;> assumption) hco) rfl hrc hrs hyd.2 hR) ⟨fun a U g mk q => by obtain ⟨q0, q1, qP, qK, qD⟩ := q; exact ⟨q0, q1, qP, va_K.moved (u := U) (U := U.calling g mk a) (Vm.Alike.refl U.vm) qK, qD⟩, fun U hU hW => ⟨rfl, by rw [hU], by rw [hU]; exact hPc, va_K.moved hW.alike hK, hDc.weaken (fun _ _ _ _ => trivial)⟩⟩ rfl hn hl.1 rfl (lv_room hsum) hd ⟨Nat.zero_le _, Nat.zero_le _⟩) hS (fun q _ h => hFc q h) hFc (fun u t H1 locs1 ht hvm hw hB hz1 hk1 hS => ?_)
  obtain ⟨hP1, hK1, hD1⟩ := hB
  rw [ht] at hP1
  obtain ⟨hP, hD⟩ := rp_join hP hD hp hk1 hP1
  exact k H1 locs1 ls hP hD hS hl
end SK
