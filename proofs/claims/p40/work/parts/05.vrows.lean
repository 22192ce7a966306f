/-! ===== the judgement V: the walk over the whole memory, whatever the heap that holds it ===== -/
def gA (G : Geo) : Nat → Prop := fun q => G.2.2.2 ≤ q
def gTy (G : Geo) : List (ClassId × FieldType) := [(G.2.1 0, .int), (G.2.1 0, .int), (G.2.1 0, .int), (G.2.1 3, .object "SectionDesk$Desk")]
def gD (G : Geo) : Prop := ∀ M : Mem, va_D (gA G) (WS G M)
def gS (G : Geo) (M : Mem) (U : State) : Prop := va_P G.1 vwCl (WS G M) U.heap ∧ va_K G.1 vwCl (gTy G) U ∧ ∀ w ∈ NW, va_Nw w U
abbrev gP (G : Geo) (av : List Value) (M : Mem) : Array Value → State → Prop := fun v U => v = av.toArray ∧ gS G M U
def gQ (G : Geo) (rv : Option Value) (M : Mem) : Array Value → State → Outcome → State → Prop := fun _ st oc t => oc = .returned rv ∧ gS G M t ∧ va_F (gA G) st t
abbrev rmk (n : Nat) : Room := { frames := n, cells := 0, slots := 0, locals := 60 * n }
theorem nest_tabs {w : Cond} (h : isNest w = true) : w.onTables = true := by
  cases w <;> first | rfl | cases h
theorem nest_warm {w : Cond} (h : isNest w = true) {s U : State} (hW : s.WarmedH U.vm) (hz : va_Nw w s) : va_Nw w U := by
  cases w <;> first | exact va_Nw.warmF hW hz | exact va_Nw.warmM hW hz | cases h
theorem nw_warm {s U : State} (hW : s.WarmedH U.vm) (h : ∀ w ∈ NW, va_Nw w s) : ∀ w ∈ NW, va_Nw w U := fun w hw => nest_warm (List.all_eq_true.mp NW_nest w hw) hW (h w hw)
theorem nw_same {s U : State} (hvm : s.vm = U.vm) (h : ∀ w ∈ NW, va_Nw w s) : ∀ w ∈ NW, va_Nw w U := fun w hw => va_Nw.same (nest_tabs (List.all_eq_true.mp NW_nest w hw)) hvm (h w hw)
theorem gP_blind (G : Geo) (av : List Value) (M : Mem) : FrameBlind (gP G av M) := fun a U g mk h => ⟨h.1, h.2.1, va_K.moved (u := U) (U := U.calling g mk a) (Vm.Alike.refl U.vm) h.2.2.1, nw_same (s := U) (U := U.calling g mk a) rfl h.2.2.2⟩
def Cx (p : Program) (s : State) (m : MethodId) (args : Array Value) (c : Code) (cc : ByteArray) (own : String) (nL : Nat) (G : Geo) : Prop :=
  p.tables.exec = Jvm.exec ∧ c.code = cc ∧ c.maxLocals = nL ∧ s.vm.findClass own = some m.cls ∧ (∀ w ∈ GL, w.before args s = true) ∧ va_K G.1 vwCl (gTy G) s ∧ (∀ w ∈ NW, va_Nw w s) ∧ gD G
theorem GL_in {C : String} {T : u_T} {N : Nat} (h : (u_ws C T N).all (fun w => decide (w ∈ GL)) = true) : ∀ w ∈ u_ws C T N, w ∈ GL := fun w hw => of_decide_eq_true (List.all_eq_true.mp h w hw)
def V (p : Program) (l : Launch) (e : Env) (R : Room) (s : State) (m : MethodId) (args : Array Value) (below : List Frame) (meth : Method) (c : Code) (nL : Nat) (G : Geo) (cells slots : Nat) (Q : State → Prop) (pc : Nat) (L : List (Nat × Value)) (st : List Value) (M : Mem) : Prop :=
  ∀ (ls : Array Slot) (H : Heap) (locs : List Loc), lv_has ls nL L → va_P G.1 vwCl (WS G M) H → va_S (gA G) s.heap H locs → W p l e R s m args below meth c H locs cells slots Q (F0 m pc ls st)
/-- a method's contract out of the walk V of its body -/
theorem Met_of {l : Launch} {y : MethodName} {cc : ByteArray} {maxL a : Nat} {ret : Option FieldType} {own : String} {G : Geo} (hG : gD G) {av : List Value} {M M' : Mem} {rv : Option Value} {L : List (Nat × Value)} (hy : plainName y.cls = true) (hown : y.cls = own) (hav : (lg_sl av).length ≤ maxL) (hL : lv_args 0 av = L)
    (body : ∀ (p : Program) (e : Env) (s : State) (m : MethodId) (args : Array Value) (below : List Frame) (meth : Method) (c : Code), Cx p s m args c cc own maxL G → meth.sig.returnType = ret → meth.locks = false → V p l e (rmk a) s m args below meth c maxL G 0 0 (MQ below (gQ G rv M') args s 0 0 (gA G)) 0 L [] M) :
    Met l y (.code y cc maxL ret :: GL) (rmk a) (gP G av M) (gQ G rv M') 0 0 (gA G) := by
  refine Met.ofW (cc := cc) (maxL := maxL) (ret := ret) hy rfl ?_
  intro p e s m args below meth c s₁ B hml hv
  obtain ⟨rfl, hP, hK, hN⟩ := hv
  have hts := atoms_spec (ws := .code y cc maxL ret :: GL) B.pre
  have hfc : s.vm.findClass own = some m.cls := by rw [← hown]; exact findClass_of_methodNamed B.named
  have hS : va_S (gA G) s.heap s.heap [] := va_S.rf
  have hl := lv_entry av (n := maxL) hav
  rw [hL] at hl
  rw [lg_entry_eq]
  exact body p e s m av.toArray below meth c ⟨B.exec, B.bytes, hml, hfc, fun w hw => hts w (List.mem_cons_of_mem _ hw), hK, hN, hG⟩ B.returns B.notSynchronized _ _ _ hl hP hS
section VR
variable {p : Program} {l : Launch} {e : Env} {R : Room} {s : State} {m : MethodId} {args : Array Value} {below : List Frame} {meth : Method} {c : Code} {cells slots : Nat} {Q : State → Prop} {cc : ByteArray} {own : String} {nL : Nat} {G : Geo} {pc : Nat} {L L' : List (Nat × Value)} {st : List Value} {M : Mem}
theorem V_sub (ks : List Nat) (hL : lv_pick L ks = L') (kk : V p l e R s m args below meth c nL G cells slots Q pc L' st M) : V p l e R s m args below meth c nL G cells slots Q pc L st M :=
  fun ls H locs hl hP hS => kk ls H locs (lv_sub hl ks hL) hP hS
theorem V_goto (hC : Cx p s m args c cc own nL G) {off : Int} (tgt : Nat) (hd : decode cc pc = .ok (.goto off, 3)) (ht : (pc : Int) + off = (tgt : Int)) (kk : V p l e R s m args below meth c nL G cells slots Q tgt L st M) : V p l e R s m args below meth c nL G cells slots Q pc L st M :=
  fun ls H locs hl hP hS => lv_goto hC.1 hC.2.1 hd ht (kk ls H locs hl hP hS)
theorem V_iload_n (hC : Cx p s m args c cc own nL G) {n : Fin 4} {i : Nat} {x : Int32} (hd : decode cc pc = .ok (.iload_n n, 1)) (hi : (n : Nat) = i) (k : Nat) (hk : L[k]? = some (i, .int x)) (kk : V p l e R s m args below meth c nL G cells slots Q (pc + 1) L (.int x :: st) M) : V p l e R s m args below meth c nL G cells slots Q pc L (st) M :=
  fun ls H locs hl hP hS => lv_iload_n hC.1 hC.2.1 hd hi (lv_at hl k hk) (kk ls H locs hl hP hS)
theorem V_iload (hC : Cx p s m args c cc own nL G) {i : Nat} {x : Int32} (hd : decode cc pc = .ok (.iload i, 2)) (k : Nat) (hk : L[k]? = some (i, .int x)) (kk : V p l e R s m args below meth c nL G cells slots Q (pc + 2) L (.int x :: st) M) : V p l e R s m args below meth c nL G cells slots Q pc L (st) M :=
  fun ls H locs hl hP hS => lv_iload hC.1 hC.2.1 hd (lv_at hl k hk) (kk ls H locs hl hP hS)
theorem V_lload_n (hC : Cx p s m args c cc own nL G) {n : Fin 4} {i : Nat} {x : Int64} (hd : decode cc pc = .ok (.lload_n n, 1)) (hi : (n : Nat) = i) (k : Nat) (hk : L[k]? = some (i, .long x)) (kk : V p l e R s m args below meth c nL G cells slots Q (pc + 1) L (.long x :: st) M) : V p l e R s m args below meth c nL G cells slots Q pc L (st) M :=
  fun ls H locs hl hP hS => lv_lload_n hC.1 hC.2.1 hd hi (lv_at hl k hk) (kk ls H locs hl hP hS)
theorem V_lload (hC : Cx p s m args c cc own nL G) {i : Nat} {x : Int64} (hd : decode cc pc = .ok (.lload i, 2)) (k : Nat) (hk : L[k]? = some (i, .long x)) (kk : V p l e R s m args below meth c nL G cells slots Q (pc + 2) L (.long x :: st) M) : V p l e R s m args below meth c nL G cells slots Q pc L (st) M :=
  fun ls H locs hl hP hS => lv_lload hC.1 hC.2.1 hd (lv_at hl k hk) (kk ls H locs hl hP hS)
theorem V_fload_n (hC : Cx p s m args c cc own nL G) {n : Fin 4} {i : Nat} {x : UInt32} (hd : decode cc pc = .ok (.fload_n n, 1)) (hi : (n : Nat) = i) (k : Nat) (hk : L[k]? = some (i, .float x)) (kk : V p l e R s m args below meth c nL G cells slots Q (pc + 1) L (.float x :: st) M) : V p l e R s m args below meth c nL G cells slots Q pc L (st) M :=
  fun ls H locs hl hP hS => lv_fload_n hC.1 hC.2.1 hd hi (lv_at hl k hk) (kk ls H locs hl hP hS)
theorem V_fload (hC : Cx p s m args c cc own nL G) {i : Nat} {x : UInt32} (hd : decode cc pc = .ok (.fload i, 2)) (k : Nat) (hk : L[k]? = some (i, .float x)) (kk : V p l e R s m args below meth c nL G cells slots Q (pc + 2) L (.float x :: st) M) : V p l e R s m args below meth c nL G cells slots Q pc L (st) M :=
  fun ls H locs hl hP hS => lv_fload hC.1 hC.2.1 hd (lv_at hl k hk) (kk ls H locs hl hP hS)
theorem V_aload_n (hC : Cx p s m args c cc own nL G) {n : Fin 4} {i : Nat} {x : Nat} (hd : decode cc pc = .ok (.aload_n n, 1)) (hi : (n : Nat) = i) (k : Nat) (hk : L[k]? = some (i, .ref x)) (kk : V p l e R s m args below meth c nL G cells slots Q (pc + 1) L (.ref x :: st) M) : V p l e R s m args below meth c nL G cells slots Q pc L (st) M :=
  fun ls H locs hl hP hS => lv_aload_n hC.1 hC.2.1 hd hi (lv_at hl k hk) (kk ls H locs hl hP hS)
theorem V_aload (hC : Cx p s m args c cc own nL G) {i : Nat} {x : Nat} (hd : decode cc pc = .ok (.aload i, 2)) (k : Nat) (hk : L[k]? = some (i, .ref x)) (kk : V p l e R s m args below meth c nL G cells slots Q (pc + 2) L (.ref x :: st) M) : V p l e R s m args below meth c nL G cells slots Q pc L (st) M :=
  fun ls H locs hl hP hS => lv_aload hC.1 hC.2.1 hd (lv_at hl k hk) (kk ls H locs hl hP hS)
theorem V_istore_n (hC : Cx p s m args c cc own nL G) {n : Fin 4} {i : Nat} {x : Int32} (L' : List (Nat × Value)) (hd : decode cc pc = .ok (.istore_n n, 1)) (hi : (n : Nat) = i) (hn : i < nL) (hL : (i, Value.int x) :: L.filter (fun q => !(q.1 == i) && !(q.1 + 1 == i && q.2.category == 2)) = L') (kk : V p l e R s m args below meth c nL G cells slots Q (pc + 1) L' st M) : V p l e R s m args below meth c nL G cells slots Q pc L (.int x :: st) M :=
  fun ls H locs hl hP hS => lv_istore_n hC.1 hC.2.1 hd hi hl hn hL (fun ls hl => kk ls H locs hl hP hS)
theorem V_istore (hC : Cx p s m args c cc own nL G) {i : Nat} {x : Int32} (L' : List (Nat × Value)) (hd : decode cc pc = .ok (.istore i, 2)) (hn : i < nL) (hL : (i, Value.int x) :: L.filter (fun q => !(q.1 == i) && !(q.1 + 1 == i && q.2.category == 2)) = L') (kk : V p l e R s m args below meth c nL G cells slots Q (pc + 2) L' st M) : V p l e R s m args below meth c nL G cells slots Q pc L (.int x :: st) M :=
  fun ls H locs hl hP hS => lv_istore hC.1 hC.2.1 hd hl hn hL (fun ls hl => kk ls H locs hl hP hS)
theorem V_lstore_n (hC : Cx p s m args c cc own nL G) {n : Fin 4} {i : Nat} {x : Int64} (L' : List (Nat × Value)) (hd : decode cc pc = .ok (.lstore_n n, 1)) (hi : (n : Nat) = i) (hn : i + 1 < nL) (hL : (i, Value.long x) :: L.filter (fun q => !(q.1 == i) && (!(q.1 == i + 1) && !(q.1 + 1 == i && q.2.category == 2))) = L') (kk : V p l e R s m args below meth c nL G cells slots Q (pc + 1) L' st M) : V p l e R s m args below meth c nL G cells slots Q pc L (.long x :: st) M :=
  fun ls H locs hl hP hS => lv_lstore_n hC.1 hC.2.1 hd hi hl hn hL (fun ls hl => kk ls H locs hl hP hS)
theorem V_lstore (hC : Cx p s m args c cc own nL G) {i : Nat} {x : Int64} (L' : List (Nat × Value)) (hd : decode cc pc = .ok (.lstore i, 2)) (hn : i + 1 < nL) (hL : (i, Value.long x) :: L.filter (fun q => !(q.1 == i) && (!(q.1 == i + 1) && !(q.1 + 1 == i && q.2.category == 2))) = L') (kk : V p l e R s m args below meth c nL G cells slots Q (pc + 2) L' st M) : V p l e R s m args below meth c nL G cells slots Q pc L (.long x :: st) M :=
  fun ls H locs hl hP hS => lv_lstore hC.1 hC.2.1 hd hl hn hL (fun ls hl => kk ls H locs hl hP hS)
theorem V_fstore_n (hC : Cx p s m args c cc own nL G) {n : Fin 4} {i : Nat} {x : UInt32} (L' : List (Nat × Value)) (hd : decode cc pc = .ok (.fstore_n n, 1)) (hi : (n : Nat) = i) (hn : i < nL) (hL : (i, Value.float x) :: L.filter (fun q => !(q.1 == i) && !(q.1 + 1 == i && q.2.category == 2)) = L') (kk : V p l e R s m args below meth c nL G cells slots Q (pc + 1) L' st M) : V p l e R s m args below meth c nL G cells slots Q pc L (.float x :: st) M :=
  fun ls H locs hl hP hS => lv_fstore_n hC.1 hC.2.1 hd hi hl hn hL (fun ls hl => kk ls H locs hl hP hS)
theorem V_fstore (hC : Cx p s m args c cc own nL G) {i : Nat} {x : UInt32} (L' : List (Nat × Value)) (hd : decode cc pc = .ok (.fstore i, 2)) (hn : i < nL) (hL : (i, Value.float x) :: L.filter (fun q => !(q.1 == i) && !(q.1 + 1 == i && q.2.category == 2)) = L') (kk : V p l e R s m args below meth c nL G cells slots Q (pc + 2) L' st M) : V p l e R s m args below meth c nL G cells slots Q pc L (.float x :: st) M :=
  fun ls H locs hl hP hS => lv_fstore hC.1 hC.2.1 hd hl hn hL (fun ls hl => kk ls H locs hl hP hS)
theorem V_astore_n (hC : Cx p s m args c cc own nL G) {n : Fin 4} {i : Nat} {x : Nat} (L' : List (Nat × Value)) (hd : decode cc pc = .ok (.astore_n n, 1)) (hi : (n : Nat) = i) (hn : i < nL) (hL : (i, Value.ref x) :: L.filter (fun q => !(q.1 == i) && !(q.1 + 1 == i && q.2.category == 2)) = L') (kk : V p l e R s m args below meth c nL G cells slots Q (pc + 1) L' st M) : V p l e R s m args below meth c nL G cells slots Q pc L (.ref x :: st) M :=
  fun ls H locs hl hP hS => lv_astore_n hC.1 hC.2.1 hd hi hl hn hL (fun ls hl => kk ls H locs hl hP hS)
theorem V_astore (hC : Cx p s m args c cc own nL G) {i : Nat} {x : Nat} (L' : List (Nat × Value)) (hd : decode cc pc = .ok (.astore i, 2)) (hn : i < nL) (hL : (i, Value.ref x) :: L.filter (fun q => !(q.1 == i) && !(q.1 + 1 == i && q.2.category == 2)) = L') (kk : V p l e R s m args below meth c nL G cells slots Q (pc + 2) L' st M) : V p l e R s m args below meth c nL G cells slots Q pc L (.ref x :: st) M :=
  fun ls H locs hl hP hS => lv_astore hC.1 hC.2.1 hd hl hn hL (fun ls hl => kk ls H locs hl hP hS)
theorem V_iinc (hC : Cx p s m args c cc own nL G) {i : Nat} {n : Int} {x : Int32} (v : Int32) (L' : List (Nat × Value)) (hd : decode cc pc = .ok (.iinc i n, 3)) (k : Nat) (hk : L[k]? = some (i, .int x)) (hv : x + Int32.ofInt n = v) (hn : i < nL) (hL : (i, Value.int v) :: L.filter (fun q => !(q.1 == i) && !(q.1 + 1 == i && q.2.category == 2)) = L') (kk : V p l e R s m args below meth c nL G cells slots Q (pc + 3) L' st M) : V p l e R s m args below meth c nL G cells slots Q pc L st M :=
  fun ls H locs hl hP hS => lv_iinc hC.1 hC.2.1 hd hl hk hv hn hL (fun ls hl => kk ls H locs hl hP hS)
theorem V_iconst (hC : Cx p s m args c cc own nL G) {n : Int} (v : Int32) (hd : decode cc pc = .ok (.iconst n, 1)) (hv : Int32.ofInt n = v) (kk : V p l e R s m args below meth c nL G cells slots Q (pc + 1) L (.int v :: st) M) : V p l e R s m args below meth c nL G cells slots Q pc L (st) M :=
  fun ls H locs hl hP hS => lv_iconst hC.1 hC.2.1 hd hv (kk ls H locs hl hP hS)
theorem V_bipush (hC : Cx p s m args c cc own nL G) {n : Int} (v : Int32) (hd : decode cc pc = .ok (.bipush n, 2)) (hv : (Int8.ofInt n).toInt32 = v) (kk : V p l e R s m args below meth c nL G cells slots Q (pc + 2) L (.int v :: st) M) : V p l e R s m args below meth c nL G cells slots Q pc L (st) M :=
  fun ls H locs hl hP hS => lv_bipush hC.1 hC.2.1 hd hv (kk ls H locs hl hP hS)
theorem V_sipush (hC : Cx p s m args c cc own nL G) {n : Int} (v : Int32) (hd : decode cc pc = .ok (.sipush n, 3)) (hv : (Int16.ofInt n).toInt32 = v) (kk : V p l e R s m args below meth c nL G cells slots Q (pc + 3) L (.int v :: st) M) : V p l e R s m args below meth c nL G cells slots Q pc L (st) M :=
  fun ls H locs hl hP hS => lv_sipush hC.1 hC.2.1 hd hv (kk ls H locs hl hP hS)
theorem V_ldc (hC : Cx p s m args c cc own nL G) {i : Nat} (v : Int32) (hd : decode cc pc = .ok (.ldc i, 2)) (hw : Cond.constant own i v ∈ GL) (kk : V p l e R s m args below meth c nL G cells slots Q (pc + 2) L (.int v :: st) M) : V p l e R s m args below meth c nL G cells slots Q pc L (st) M :=
  fun ls H locs hl hP hS => lv_ldc hC.1 hC.2.1 hC.2.2.2.1 (hC.2.2.2.2.1 _ hw) hd (kk ls H locs hl hP hS)
theorem V_ldcw (hC : Cx p s m args c cc own nL G) {i : Nat} (v : Int32) (hd : decode cc pc = .ok (.ldc_w i, 3)) (hw : Cond.constant own i v ∈ GL) (kk : V p l e R s m args below meth c nL G cells slots Q (pc + 3) L (.int v :: st) M) : V p l e R s m args below meth c nL G cells slots Q pc L (st) M :=
  fun ls H locs hl hP hS => lv_ldcw hC.1 hC.2.1 hC.2.2.2.1 (hC.2.2.2.2.1 _ hw) hd (kk ls H locs hl hP hS)
theorem V_ldc2 (hC : Cx p s m args c cc own nL G) {i : Nat} (v : Int64) (hd : decode cc pc = .ok (.ldc2_w i, 3)) (hw : Cond.constantLong own i v ∈ GL) (kk : V p l e R s m args below meth c nL G cells slots Q (pc + 3) L (.long v :: st) M) : V p l e R s m args below meth c nL G cells slots Q pc L (st) M :=
  fun ls H locs hl hP hS => lv_ldc2 hC.1 hC.2.1 hC.2.2.2.1 (hC.2.2.2.2.1 _ hw) hd (kk ls H locs hl hP hS)
theorem V_iadd (hC : Cx p s m args c cc own nL G) {x y : Int32} (hd : decode cc pc = .ok (.iadd, 1)) (kk : V p l e R s m args below meth c nL G cells slots Q (pc + 1) L (.int (x + y) :: st) M) : V p l e R s m args below meth c nL G cells slots Q pc L (.int y :: .int x :: st) M :=
  fun ls H locs hl hP hS => lv_iadd hC.1 hC.2.1 hd (kk ls H locs hl hP hS)
theorem V_isub (hC : Cx p s m args c cc own nL G) {x y : Int32} (hd : decode cc pc = .ok (.isub, 1)) (kk : V p l e R s m args below meth c nL G cells slots Q (pc + 1) L (.int (x - y) :: st) M) : V p l e R s m args below meth c nL G cells slots Q pc L (.int y :: .int x :: st) M :=
  fun ls H locs hl hP hS => lv_isub hC.1 hC.2.1 hd (kk ls H locs hl hP hS)
theorem V_imul (hC : Cx p s m args c cc own nL G) {x y : Int32} (hd : decode cc pc = .ok (.imul, 1)) (kk : V p l e R s m args below meth c nL G cells slots Q (pc + 1) L (.int (x * y) :: st) M) : V p l e R s m args below meth c nL G cells slots Q pc L (.int y :: .int x :: st) M :=
  fun ls H locs hl hP hS => lv_imul hC.1 hC.2.1 hd (kk ls H locs hl hP hS)
theorem V_iand (hC : Cx p s m args c cc own nL G) {x y : Int32} (hd : decode cc pc = .ok (.iand, 1)) (kk : V p l e R s m args below meth c nL G cells slots Q (pc + 1) L (.int (x &&& y) :: st) M) : V p l e R s m args below meth c nL G cells slots Q pc L (.int y :: .int x :: st) M :=
  fun ls H locs hl hP hS => lv_iand hC.1 hC.2.1 hd (kk ls H locs hl hP hS)
theorem V_ior (hC : Cx p s m args c cc own nL G) {x y : Int32} (hd : decode cc pc = .ok (.ior, 1)) (kk : V p l e R s m args below meth c nL G cells slots Q (pc + 1) L (.int (x ||| y) :: st) M) : V p l e R s m args below meth c nL G cells slots Q pc L (.int y :: .int x :: st) M :=
  fun ls H locs hl hP hS => lv_ior hC.1 hC.2.1 hd (kk ls H locs hl hP hS)
theorem V_ixor (hC : Cx p s m args c cc own nL G) {x y : Int32} (hd : decode cc pc = .ok (.ixor, 1)) (kk : V p l e R s m args below meth c nL G cells slots Q (pc + 1) L (.int (x ^^^ y) :: st) M) : V p l e R s m args below meth c nL G cells slots Q pc L (.int y :: .int x :: st) M :=
  fun ls H locs hl hP hS => lv_ixor hC.1 hC.2.1 hd (kk ls H locs hl hP hS)
theorem V_ishl (hC : Cx p s m args c cc own nL G) {x y : Int32} (hd : decode cc pc = .ok (.ishl, 1)) (kk : V p l e R s m args below meth c nL G cells slots Q (pc + 1) L (.int (x <<< (y &&& 31)) :: st) M) : V p l e R s m args below meth c nL G cells slots Q pc L (.int y :: .int x :: st) M :=
  fun ls H locs hl hP hS => lv_ishl hC.1 hC.2.1 hd (kk ls H locs hl hP hS)
theorem V_iushr (hC : Cx p s m args c cc own nL G) {x y : Int32} (hd : decode cc pc = .ok (.iushr, 1)) (kk : V p l e R s m args below meth c nL G cells slots Q (pc + 1) L (.int (ushr x y) :: st) M) : V p l e R s m args below meth c nL G cells slots Q pc L (.int y :: .int x :: st) M :=
  fun ls H locs hl hP hS => lv_iushr hC.1 hC.2.1 hd rfl (kk ls H locs hl hP hS)
theorem V_idiv (hC : Cx p s m args c cc own nL G) {x y : Int32} (hd : decode cc pc = .ok (.idiv, 1)) (hne : ¬ y = 0) (kk : V p l e R s m args below meth c nL G cells slots Q (pc + 1) L (.int (x / y) :: st) M) : V p l e R s m args below meth c nL G cells slots Q pc L (.int y :: .int x :: st) M :=
  fun ls H locs hl hP hS => lv_idiv hC.1 hC.2.1 hd hne (kk ls H locs hl hP hS)
theorem V_irem (hC : Cx p s m args c cc own nL G) {x y : Int32} (hd : decode cc pc = .ok (.irem, 1)) (hne : ¬ y = 0) (kk : V p l e R s m args below meth c nL G cells slots Q (pc + 1) L (.int (ireM x y) :: st) M) : V p l e R s m args below meth c nL G cells slots Q pc L (.int y :: .int x :: st) M :=
  fun ls H locs hl hP hS => lv_irem hC.1 hC.2.1 hd hne (kk ls H locs hl hP hS)
theorem V_ladd (hC : Cx p s m args c cc own nL G) {x y : Int64} (hd : decode cc pc = .ok (.ladd, 1)) (kk : V p l e R s m args below meth c nL G cells slots Q (pc + 1) L (.long (x + y) :: st) M) : V p l e R s m args below meth c nL G cells slots Q pc L (.long y :: .long x :: st) M :=
  fun ls H locs hl hP hS => lv_ladd hC.1 hC.2.1 hd (kk ls H locs hl hP hS)
theorem V_lmul (hC : Cx p s m args c cc own nL G) {x y : Int64} (hd : decode cc pc = .ok (.lmul, 1)) (kk : V p l e R s m args below meth c nL G cells slots Q (pc + 1) L (.long (x * y) :: st) M) : V p l e R s m args below meth c nL G cells slots Q pc L (.long y :: .long x :: st) M :=
  fun ls H locs hl hP hS => lv_lmul hC.1 hC.2.1 hd (kk ls H locs hl hP hS)
theorem V_i2l (hC : Cx p s m args c cc own nL G) {x : Int32} (hd : decode cc pc = .ok (.i2l, 1)) (kk : V p l e R s m args below meth c nL G cells slots Q (pc + 1) L (.long x.toInt64 :: st) M) : V p l e R s m args below meth c nL G cells slots Q pc L (.int x :: st) M :=
  fun ls H locs hl hP hS => lv_i2l hC.1 hC.2.1 hd rfl (kk ls H locs hl hP hS)
theorem V_i2f (hC : Cx p s m args c cc own nL G) {x : Int32} (hd : decode cc pc = .ok (.i2f, 1)) (kk : V p l e R s m args below meth c nL G cells slots Q (pc + 1) L (.float (FP.i2f x) :: st) M) : V p l e R s m args below meth c nL G cells slots Q pc L (.int x :: st) M :=
  fun ls H locs hl hP hS => lv_i2f hC.1 hC.2.1 hd (kk ls H locs hl hP hS)
theorem V_f2i (hC : Cx p s m args c cc own nL G) {x : UInt32} (hd : decode cc pc = .ok (.f2i, 1)) (kk : V p l e R s m args below meth c nL G cells slots Q (pc + 1) L (.int (FP.f2i x) :: st) M) : V p l e R s m args below meth c nL G cells slots Q pc L (.float x :: st) M :=
  fun ls H locs hl hP hS => lv_f2i hC.1 hC.2.1 hd (kk ls H locs hl hP hS)
theorem V_fdiv (hC : Cx p s m args c cc own nL G) {x y : UInt32} (hd : decode cc pc = .ok (.fdiv, 1)) (hne : vf_n32 (FP.fdiv x y)) (kk : V p l e R s m args below meth c nL G cells slots Q (pc + 1) L (.float (FP.fdiv x y) :: st) M) : V p l e R s m args below meth c nL G cells slots Q pc L (.float y :: .float x :: st) M :=
  fun ls H locs hl hP hS => lv_fdiv hC.1 hC.2.1 hd hne (kk ls H locs hl hP hS)
theorem V_fmul (hC : Cx p s m args c cc own nL G) {x y : UInt32} (hd : decode cc pc = .ok (.fmul, 1)) (hne : vf_n32 (FP.fmul x y)) (kk : V p l e R s m args below meth c nL G cells slots Q (pc + 1) L (.float (FP.fmul x y) :: st) M) : V p l e R s m args below meth c nL G cells slots Q pc L (.float y :: .float x :: st) M :=
  fun ls H locs hl hP hS => lv_fmul hC.1 hC.2.1 hd hne (kk ls H locs hl hP hS)
theorem V_fsub (hC : Cx p s m args c cc own nL G) {x y : UInt32} (hd : decode cc pc = .ok (.fsub, 1)) (hne : vf_n32 (FP.fsub x y)) (kk : V p l e R s m args below meth c nL G cells slots Q (pc + 1) L (.float (FP.fsub x y) :: st) M) : V p l e R s m args below meth c nL G cells slots Q pc L (.float y :: .float x :: st) M :=
  fun ls H locs hl hP hS => lv_fsub hC.1 hC.2.1 hd hne (kk ls H locs hl hP hS)
theorem V_fcmp (hC : Cx p s m args c cc own nL G) {x y : UInt32} {op : CmpOp} (hd : decode cc pc = .ok (.fcmp op, 1)) (kk : V p l e R s m args below meth c nL G cells slots Q (pc + 1) L (.int (Op.cmpValue (FP.fcmp x y) op) :: st) M) : V p l e R s m args below meth c nL G cells slots Q pc L (.float y :: .float x :: st) M :=
  fun ls H locs hl hP hS => lv_fcmp hC.1 hC.2.1 hd (kk ls H locs hl hP hS)
theorem V_dup (hC : Cx p s m args c cc own nL G) {v : Value} (hd : decode cc pc = .ok (.dup, 1)) (hv : v.category = 1) (kk : V p l e R s m args below meth c nL G cells slots Q (pc + 1) L (v :: v :: st) M) : V p l e R s m args below meth c nL G cells slots Q pc L (v :: st) M :=
  fun ls H locs hl hP hS => lv_dup hC.1 hC.2.1 hd hv (kk ls H locs hl hP hS)
theorem V_dup2 (hC : Cx p s m args c cc own nL G) {v w : Value} (hd : decode cc pc = .ok (.dup2, 1)) (hv : v.category = 1) (hw : w.category = 1) (kk : V p l e R s m args below meth c nL G cells slots Q (pc + 1) L (v :: w :: v :: w :: st) M) : V p l e R s m args below meth c nL G cells slots Q pc L (v :: w :: st) M :=
  fun ls H locs hl hP hS => lv_dup2_11 hC.1 hC.2.1 hd hv hw (kk ls H locs hl hP hS)
theorem V_pop (hC : Cx p s m args c cc own nL G) {v : Value} (hd : decode cc pc = .ok (.pop, 1)) (hv : v.category = 1) (kk : V p l e R s m args below meth c nL G cells slots Q (pc + 1) L (st) M) : V p l e R s m args below meth c nL G cells slots Q pc L (v :: st) M :=
  fun ls H locs hl hP hS => lv_pop hC.1 hC.2.1 hd hv (kk ls H locs hl hP hS)
theorem V_icmp_eq (hC : Cx p s m args c cc own nL G) {x y : Int32} {off : Int} (tgt : Nat) (hd : decode cc pc = .ok (.if_icmp .eq off, 3)) (ht : (pc : Int) + off = (tgt : Int)) (kt : x = y → V p l e R s m args below meth c nL G cells slots Q tgt L st M) (kf : ¬ x = y → V p l e R s m args below meth c nL G cells slots Q (pc + 3) L st M) : V p l e R s m args below meth c nL G cells slots Q pc L (.int y :: .int x :: st) M :=
  fun ls H locs hl hP hS => lv_icmp_eq hC.1 hC.2.1 hd ht (fun z => kt z ls H locs hl hP hS) (fun z => kf z ls H locs hl hP hS)
theorem V_icmp_ne (hC : Cx p s m args c cc own nL G) {x y : Int32} {off : Int} (tgt : Nat) (hd : decode cc pc = .ok (.if_icmp .ne off, 3)) (ht : (pc : Int) + off = (tgt : Int)) (kt : ¬ x = y → V p l e R s m args below meth c nL G cells slots Q tgt L st M) (kf : x = y → V p l e R s m args below meth c nL G cells slots Q (pc + 3) L st M) : V p l e R s m args below meth c nL G cells slots Q pc L (.int y :: .int x :: st) M :=
  fun ls H locs hl hP hS => lv_icmp_ne hC.1 hC.2.1 hd ht (fun z => kt z ls H locs hl hP hS) (fun z => kf z ls H locs hl hP hS)
theorem V_icmp_lt (hC : Cx p s m args c cc own nL G) {x y : Int32} {off : Int} (tgt : Nat) (hd : decode cc pc = .ok (.if_icmp .lt off, 3)) (ht : (pc : Int) + off = (tgt : Int)) (kt : x < y → V p l e R s m args below meth c nL G cells slots Q tgt L st M) (kf : ¬ x < y → V p l e R s m args below meth c nL G cells slots Q (pc + 3) L st M) : V p l e R s m args below meth c nL G cells slots Q pc L (.int y :: .int x :: st) M :=
  fun ls H locs hl hP hS => lv_icmp_lt hC.1 hC.2.1 hd ht (fun z => kt z ls H locs hl hP hS) (fun z => kf z ls H locs hl hP hS)
theorem V_icmp_ge (hC : Cx p s m args c cc own nL G) {x y : Int32} {off : Int} (tgt : Nat) (hd : decode cc pc = .ok (.if_icmp .ge off, 3)) (ht : (pc : Int) + off = (tgt : Int)) (kt : y ≤ x → V p l e R s m args below meth c nL G cells slots Q tgt L st M) (kf : ¬ y ≤ x → V p l e R s m args below meth c nL G cells slots Q (pc + 3) L st M) : V p l e R s m args below meth c nL G cells slots Q pc L (.int y :: .int x :: st) M :=
  fun ls H locs hl hP hS => lv_icmp_ge hC.1 hC.2.1 hd ht (fun z => kt z ls H locs hl hP hS) (fun z => kf z ls H locs hl hP hS)
theorem V_icmp_gt (hC : Cx p s m args c cc own nL G) {x y : Int32} {off : Int} (tgt : Nat) (hd : decode cc pc = .ok (.if_icmp .gt off, 3)) (ht : (pc : Int) + off = (tgt : Int)) (kt : y < x → V p l e R s m args below meth c nL G cells slots Q tgt L st M) (kf : ¬ y < x → V p l e R s m args below meth c nL G cells slots Q (pc + 3) L st M) : V p l e R s m args below meth c nL G cells slots Q pc L (.int y :: .int x :: st) M :=
  fun ls H locs hl hP hS => lv_icmp_gt hC.1 hC.2.1 hd ht (fun z => kt z ls H locs hl hP hS) (fun z => kf z ls H locs hl hP hS)
theorem V_icmp_le (hC : Cx p s m args c cc own nL G) {x y : Int32} {off : Int} (tgt : Nat) (hd : decode cc pc = .ok (.if_icmp .le off, 3)) (ht : (pc : Int) + off = (tgt : Int)) (kt : x ≤ y → V p l e R s m args below meth c nL G cells slots Q tgt L st M) (kf : ¬ x ≤ y → V p l e R s m args below meth c nL G cells slots Q (pc + 3) L st M) : V p l e R s m args below meth c nL G cells slots Q pc L (.int y :: .int x :: st) M :=
  fun ls H locs hl hP hS => lv_icmp_le hC.1 hC.2.1 hd ht (fun z => kt z ls H locs hl hP hS) (fun z => kf z ls H locs hl hP hS)
theorem V_if_eq (hC : Cx p s m args c cc own nL G) {x : Int32} {off : Int} (tgt : Nat) (hd : decode cc pc = .ok (.ifCond .eq off, 3)) (ht : (pc : Int) + off = (tgt : Int)) (kt : x = 0 → V p l e R s m args below meth c nL G cells slots Q tgt L st M) (kf : ¬ x = 0 → V p l e R s m args below meth c nL G cells slots Q (pc + 3) L st M) : V p l e R s m args below meth c nL G cells slots Q pc L (.int x :: st) M :=
  fun ls H locs hl hP hS => lv_if_eq hC.1 hC.2.1 hd ht (fun z => kt z ls H locs hl hP hS) (fun z => kf z ls H locs hl hP hS)
theorem V_if_ne (hC : Cx p s m args c cc own nL G) {x : Int32} {off : Int} (tgt : Nat) (hd : decode cc pc = .ok (.ifCond .ne off, 3)) (ht : (pc : Int) + off = (tgt : Int)) (kt : ¬ x = 0 → V p l e R s m args below meth c nL G cells slots Q tgt L st M) (kf : x = 0 → V p l e R s m args below meth c nL G cells slots Q (pc + 3) L st M) : V p l e R s m args below meth c nL G cells slots Q pc L (.int x :: st) M :=
  fun ls H locs hl hP hS => lv_if_ne hC.1 hC.2.1 hd ht (fun z => kt z ls H locs hl hP hS) (fun z => kf z ls H locs hl hP hS)
theorem V_if_lt (hC : Cx p s m args c cc own nL G) {x : Int32} {off : Int} (tgt : Nat) (hd : decode cc pc = .ok (.ifCond .lt off, 3)) (ht : (pc : Int) + off = (tgt : Int)) (kt : x < 0 → V p l e R s m args below meth c nL G cells slots Q tgt L st M) (kf : ¬ x < 0 → V p l e R s m args below meth c nL G cells slots Q (pc + 3) L st M) : V p l e R s m args below meth c nL G cells slots Q pc L (.int x :: st) M :=
  fun ls H locs hl hP hS => lv_if_lt hC.1 hC.2.1 hd ht (fun z => kt z ls H locs hl hP hS) (fun z => kf z ls H locs hl hP hS)
theorem V_if_ge (hC : Cx p s m args c cc own nL G) {x : Int32} {off : Int} (tgt : Nat) (hd : decode cc pc = .ok (.ifCond .ge off, 3)) (ht : (pc : Int) + off = (tgt : Int)) (kt : 0 ≤ x → V p l e R s m args below meth c nL G cells slots Q tgt L st M) (kf : ¬ 0 ≤ x → V p l e R s m args below meth c nL G cells slots Q (pc + 3) L st M) : V p l e R s m args below meth c nL G cells slots Q pc L (.int x :: st) M :=
  fun ls H locs hl hP hS => lv_if_ge hC.1 hC.2.1 hd ht (fun z => kt z ls H locs hl hP hS) (fun z => kf z ls H locs hl hP hS)
theorem V_if_gt (hC : Cx p s m args c cc own nL G) {x : Int32} {off : Int} (tgt : Nat) (hd : decode cc pc = .ok (.ifCond .gt off, 3)) (ht : (pc : Int) + off = (tgt : Int)) (kt : 0 < x → V p l e R s m args below meth c nL G cells slots Q tgt L st M) (kf : ¬ 0 < x → V p l e R s m args below meth c nL G cells slots Q (pc + 3) L st M) : V p l e R s m args below meth c nL G cells slots Q pc L (.int x :: st) M :=
  fun ls H locs hl hP hS => lv_if_gt hC.1 hC.2.1 hd ht (fun z => kt z ls H locs hl hP hS) (fun z => kf z ls H locs hl hP hS)
theorem V_if_le (hC : Cx p s m args c cc own nL G) {x : Int32} {off : Int} (tgt : Nat) (hd : decode cc pc = .ok (.ifCond .le off, 3)) (ht : (pc : Int) + off = (tgt : Int)) (kt : x ≤ 0 → V p l e R s m args below meth c nL G cells slots Q tgt L st M) (kf : ¬ x ≤ 0 → V p l e R s m args below meth c nL G cells slots Q (pc + 3) L st M) : V p l e R s m args below meth c nL G cells slots Q pc L (.int x :: st) M :=
  fun ls H locs hl hP hS => lv_if_le hC.1 hC.2.1 hd ht (fun z => kt z ls H locs hl hP hS) (fun z => kf z ls H locs hl hP hS)
theorem V_ifnonnull (hC : Cx p s m args c cc own nL G) {x : Nat} {off : Int} (tgt : Nat) (hd : decode cc pc = .ok (.ifnonnull off, 3)) (ht : (pc : Int) + off = (tgt : Int)) (kk : V p l e R s m args below meth c nL G cells slots Q tgt L st M) : V p l e R s m args below meth c nL G cells slots Q pc L (.ref x :: st) M :=
  fun ls H locs hl hP hS => lv_ifnonnull hC.1 hC.2.1 hd ht (kk ls H locs hl hP hS)
theorem V_tableIn (hC : Cx p s m args c cc own nL G) {dflt lo hi : Int} {offs : Array Int} {len : Nat} {x : Int32} (i : Nat) {off : Int} (tgt : Nat) (hd : decode cc pc = .ok (.tableswitch dflt lo hi offs, len)) (hx : x.toInt = lo + i) (hi' : lo + i ≤ hi) (ho : offs[i]? = some off) (ht : (pc : Int) + off = (tgt : Int)) (kk : V p l e R s m args below meth c nL G cells slots Q tgt L st M) : V p l e R s m args below meth c nL G cells slots Q pc L (.int x :: st) M :=
  fun ls H locs hl hP hS => lv_tableIn hC.1 hC.2.1 hd (by omega) (by omega) (by rw [show (x.toInt - lo).toNat = i by omega]; exact ho) ht (kk ls H locs hl hP hS)
theorem V_tableOut (hC : Cx p s m args c cc own nL G) {dflt lo hi : Int} {offs : Array Int} {len : Nat} {x : Int32} (tgt : Nat) (hd : decode cc pc = .ok (.tableswitch dflt lo hi offs, len)) (h : x.toInt < lo ∨ hi < x.toInt) (ht : (pc : Int) + dflt = (tgt : Int)) (kk : V p l e R s m args below meth c nL G cells slots Q tgt L st M) : V p l e R s m args below meth c nL G cells slots Q pc L (.int x :: st) M :=
  fun ls H locs hl hP hS => lv_tableOut hC.1 hC.2.1 hd h ht (kk ls H locs hl hP hS)
theorem V_lookup (hC : Cx p s m args c cc own nL G) {dflt : Int} {ps : Array (Int × Int)} {len : Nat} {x : Int32} {off : Int} (tgt : Nat) (hd : decode cc pc = .ok (.lookupswitch dflt ps, len)) (hp : (ps.toList.zip (ps.toList.drop 1)).all (fun (a, next) => a.1 < next.1) = true) (ho : Op.lookupswitch.offset ps.toList dflt x.toInt = off) (ht : (pc : Int) + off = (tgt : Int)) (kk : V p l e R s m args below meth c nL G cells slots Q tgt L st M) : V p l e R s m args below meth c nL G cells slots Q pc L (.int x :: st) M :=
  fun ls H locs hl hP hS => lv_lookup hC.1 hC.2.1 hd hp ho ht (kk ls H locs hl hP hS)
theorem V_iald (hC : Cx p s m args c cc own nL G) {g j n q : Nat} {i : Int32} (hI : isI G g j n q) (hin : inb i n = true) (hd : decode cc pc = .ok (.iaload, 1)) (kk : V p l e R s m args below meth c nL G cells slots Q (pc + 1) L (.int (M.1 g j (cl i)) :: st) M) : V p l e R s m args below meth c nL G cells slots Q pc L (.int i :: .ref (adr G g j) :: st) M :=
  fun ls H locs hl hP hS => va_iald hC.1 hC.2.1 hC.2.2.2.2.2.1 hP q 0 ((ws_get hI.1).trans (by rw [hI.2])) rfl (inb_in hin) hd (kk ls H locs hl hP hS)
theorem V_iast (hC : Cx p s m args c cc own nL G) {g j n q : Nat} {i x : Int32} (hI : isI G g j n q) (hin : inb i n = true) (hd : decode cc pc = .ok (.iastore, 1)) (kk : V p l e R s m args below meth c nL G cells slots Q (pc + 1) L st (wr M g j (cl i) x)) : V p l e R s m args below meth c nL G cells slots Q pc L (.int x :: .int i :: .ref (adr G g j) :: st) M :=
  fun ls H locs hl hP hS => va_iast hC.1 hC.2.1 hC.2.2.2.2.2.1 hP (hC.2.2.2.2.2.2.2 M) hS q 0 ((ws_get hI.1).trans (by rw [hI.2])) rfl (inb_in hin) hd (fun H1 locs1 hP1 _ hS1 => kk ls H1 locs1 hl (by
    have h := ws_set (G := G) (M := M) (upd (M.1 g j) (cl i) x) hI.1
    rw [hI.2] at h
    rw [show WS G (wr M g j (cl i) x) = _ from h.symm]
    exact hP1) hS1)
theorem V_alen (hC : Cx p s m args c cc own nL G) {g j n q : Nat} (hI : isI G g j n q) (hd : decode cc pc = .ok (.arraylength, 1)) (kk : V p l e R s m args below meth c nL G cells slots Q (pc + 1) L (.int (Int32.ofNat n) :: st) M) : V p l e R s m args below meth c nL G cells slots Q pc L (.ref (adr G g j) :: st) M :=
  fun ls H locs hl hP hS => va_alen hC.1 hC.2.1 hC.2.2.2.2.2.1 hP q 0 (x := (n, .inl (M.1 g j))) ((ws_get hI.1).trans (by rw [hI.2])) (ty := .int) rfl rfl hd (kk ls H locs hl hP hS)
/-- the saved states' row of desks -/
theorem V_dald (hC : Cx p s m args c cc own nL G) {i : Int32} (hin : inb i 4 = true) (hd : decode cc pc = .ok (.aaload, 1)) (kk : V p l e R s m args below meth c nL G cells slots Q (pc + 1) L (.ref (adr G (cl (M.1 6 2 (cl i))) 0) :: st) M) : V p l e R s m args below meth c nL G cells slots Q pc L (.int i :: .ref (adr G 6 2) :: st) M :=
  fun ls H locs hl hP hS => va_aldq hC.1 hC.2.1 hC.2.2.2.2.2.1 hP 110 3 (C := "SectionDesk$Desk") ((ws_get (show idx[110]? = some (6, 2) by decide +kernel)).trans rfl) rfl (inb_in hin) hd (kk ls H locs hl hP hS)
theorem V_dast (hC : Cx p s m args c cc own nL G) {g : Nat} {i : Int32} (hg : g < 6) (hin : inb i 4 = true) (hd : decode cc pc = .ok (.aastore, 1)) (kk : V p l e R s m args below meth c nL G cells slots Q (pc + 1) L st (wr M 6 2 (cl i) (nI g))) : V p l e R s m args below meth c nL G cells slots Q pc L (.ref (adr G g 0) :: .int i :: .ref (adr G 6 2) :: st) M := by
  intro ls H locs hl hP hS
  have hO := (f_d0_6 (G := G) hg).2 (M.1 g 0) (M.2 g)
  obtain ⟨fs, hfs, -⟩ := hO
  refine va_astq hC.1 hC.2.1 hC.2.2.2.2.2.1 hP (hC.2.2.2.2.2.2.2 M) hS 110 3 (18 * g + 0) 1 (r := (RX1, TX1, 7)) ((ws_get (show idx[110]? = some (6, 2) by decide +kernel)).trans rfl) rfl ((ws_get (idx_dk hg (by decide))).trans (by rw [hfs])) rfl (inb_in hin) hd (fun H1 locs1 hP1 _ hS1 => kk ls H1 locs1 hl ?_ hS1)
  have h := ws_set (G := G) (M := M) (upd (M.1 6 2) (cl i) (nI g)) (show idx[110]? = some (6, 2) by decide +kernel)
  have hc : cn G (upd (M.1 6 2) (cl i) (nI g)) (M.2 6) 6 2 = .inl (G.2.1 3, 4, .inr (.inr (.inr (.inr (va_up (fun k => some (adr G (cl (M.1 6 2 k)) 0)) (cl i) (some (adr G g 0))))))) := by
    show (Sum.inl (G.2.1 3, 4, .inr (.inr (.inr (.inr (fun k => some (adr G (cl (upd (M.1 6 2) (cl i) (nI g) k)) 0)))))) : va_E) = _
    congr 7
    funext k
    simp only [upd, va_up]
    split
    · rw [show cl (nI g) = g from nI_clamp (by omega)]
    · rfl
  rw [hc] at h
  rw [show WS G (wr M 6 2 (cl i) (nI g)) = _ from h.symm]
  exact hP1
abbrev LK (own : String) (index : Nat) (ref name desc host : String) (s : State) (args : Array Value) : Prop := (Cond.fieldLink own index ref name desc).before args s = true ∨ (Cond.fieldLinkNest own index ref name desc host).before args s = true
theorem V_getv (hC : Cx p s m args c cc own nL G) {host ref Cn : String} {T : u_T} {N index g j q ci k : Nat} {v : Value} (hin : ∀ w ∈ u_ws Cn T N, w ∈ GL) (hc : vwCl[ci]? = some (Cn, T, N)) (hk : k < N) (hq : idx[q]? = some (g, j)) (hv : ∃ fs : List Value, cn G (M.1 g j) (M.2 g) g j = .inr (ci, fs) ∧ fs[k]? = some v) (hw : Cond.fieldLink own index ref (T k).2.1 (T k).2.2.1 ∈ GL ∨ Cond.fieldLinkNest own index ref (T k).2.1 (T k).2.2.1 host ∈ NW) (hr : (T k).1 = ref) (hd : decode cc pc = .ok (.getfield index, 3)) (kk : V p l e R s m args below meth c nL G cells slots Q (pc + 3) L (v :: st) M) : V p l e R s m args below meth c nL G cells slots Q pc L (.ref (adr G g j) :: st) M := by
  obtain ⟨fs, h1, h2⟩ := hv
  intro ls H locs hl hP hS
  rcases hw with hw | hw
  · exact va_get hC.1 hC.2.1 hC.2.2.2.2.1 hin hC.2.2.2.1 hC.2.2.2.2.2.1 hP q ((ws_get hq).trans (by rw [h1])) hc k hk (hC.2.2.2.2.1 _ hw) (fun _ h9 => by rw [← hr]; exact h9) h2 hd (kk ls H locs hl hP hS)
  · exact va_getN hC.1 hC.2.1 hC.2.2.2.2.1 hin hC.2.2.2.1 hC.2.2.2.2.2.1 hP q ((ws_get hq).trans (by rw [h1])) hc k hk (va_Nw.use rfl (hC.2.2.2.2.2.2.1 _ hw)) (fun _ h9 => by rw [← hr]; exact h9) h2 hd (kk ls H locs hl hP hS)
/-- what the tables say of a field: its class, its place, its link in the class own (host "": the class itself) -/
def fldw (own : String) (index ci k : Nat) (nm : String) (host : String) : Prop := ∃ (Cn : String) (T : u_T) (N : Nat), vwCl[ci]? = some (Cn, T, N) ∧ k < N ∧ (∀ w ∈ u_ws Cn T N, w ∈ GL) ∧ (T k).1 = Cn ∧ (T k).2.1 = nm ∧ (Cond.fieldLink own index Cn (T k).2.1 (T k).2.2.1 ∈ GL ∨ Cond.fieldLinkNest own index Cn (T k).2.1 (T k).2.2.1 host ∈ NW)
/-- and to write it: an int, not final -/
def flpw (ci k : Nat) : Prop := ∃ (Cn : String) (T : u_T) (N : Nat) (ty0 : Nat → FieldType), vwCl[ci]? = some (Cn, T, N) ∧ (∀ k, k < N → parseFieldDescriptor (T k).2.2.1 = some (ty0 k)) ∧ (∀ a, a < N → ∀ b, b < N → a ≠ b → (T a).2.1 ≠ (T b).2.1) ∧ (T k).2.2.2 = false ∧ parseFieldDescriptor (T k).2.2.1 = some .int
theorem V_getI (hC : Cx p s m args c cc own nL G) {host nm : String} {index g j q ci k : Nat} (hF : isF G g j q ci k) (hw : fldw own index ci k nm host) (hd : decode cc pc = .ok (.getfield index, 3)) (kk : V p l e R s m args below meth c nL G cells slots Q (pc + 3) L (.int (M.1 g j k) :: st) M) : V p l e R s m args below meth c nL G cells slots Q pc L (.ref (adr G g j) :: st) M := by
  obtain ⟨Cn, T, N, h1, h2, h3, h4, -, h6⟩ := hw
  obtain ⟨fs, e1, e2, -⟩ := hF.2 (M.1 g j) (M.2 g)
  exact V_getv hC h3 h1 h2 hF.1 ⟨fs, e1, e2⟩ h6 h4 hd kk
theorem V_getR (hC : Cx p s m args c cc own nL G) {host nm : String} {index g j q ci k g2 j2 : Nat} (hF : isR G g j q ci k g2 j2) (hw : fldw own index ci k nm host) (hd : decode cc pc = .ok (.getfield index, 3)) (kk : V p l e R s m args below meth c nL G cells slots Q (pc + 3) L (.ref (adr G g2 j2) :: st) M) : V p l e R s m args below meth c nL G cells slots Q pc L (.ref (adr G g j) :: st) M := by
  obtain ⟨Cn, T, N, h1, h2, h3, h4, -, h6⟩ := hw
  obtain ⟨fs, e1, e2⟩ := hF.2 (M.1 g j) (M.2 g)
  exact V_getv hC h3 h1 h2 hF.1 ⟨fs, e1, e2⟩ h6 h4 hd kk
theorem V_putI (hC : Cx p s m args c cc own nL G) {host nm : String} {index g j q ci k : Nat} {x : Int32} (hF : isF G g j q ci k) (hw : fldw own index ci k nm host) (hp : flpw ci k) (hd : decode cc pc = .ok (.putfield index, 3)) (kk : V p l e R s m args below meth c nL G cells slots Q (pc + 3) L st (wr M g j k x)) : V p l e R s m args below meth c nL G cells slots Q pc L (.int x :: .ref (adr G g j) :: st) M := by
  obtain ⟨Cn, T, N, h1, h2, h3, h4, -, h6⟩ := hw
  obtain ⟨Cn', T', N', ty0, p1, p2, p3, p4, p5⟩ := hp
  have hz := Option.some.inj (h1.symm.trans p1)
  cases hz
  obtain ⟨fs, e1, e2, e3⟩ := hF.2 (M.1 g j) (M.2 g)
  have hlen : k < fs.length := (List.getElem?_eq_some_iff.mp e2).1
  intro ls H locs hl hP hS
  have hset : ∀ H1, va_P G.1 vwCl ((WS G M).set q (adr G g j, .inr (ci, fs.set k (.int x)))) H1 → va_P G.1 vwCl (WS G (wr M g j k x)) H1 := by
    intro H1 h
    have h8 := ws_set (G := G) (M := M) (upd (M.1 g j) k x) hF.1
    rw [e3 x] at h8
    rw [show WS G (wr M g j k x) = _ from h8.symm]
    exact h
  rcases h6 with hw | hw
  · exact va_put hC.1 hC.2.1 hC.2.2.2.2.1 h3 ty0 p2 p3 hC.2.2.2.1 hC.2.2.2.2.2.1 hP (hC.2.2.2.2.2.2.2 M) hS q ((ws_get hF.1).trans (by rw [e1])) h1 k h2 (hC.2.2.2.2.1 _ hw) (fun _ h9 => by rw [← h4]; exact h9) p4 p5 rfl rfl hlen hd (fun H1 locs1 hP1 _ hS1 => kk ls H1 locs1 hl (hset H1 hP1) hS1)
  · exact va_putN hC.1 hC.2.1 hC.2.2.2.2.1 h3 ty0 p2 p3 hC.2.2.2.1 hC.2.2.2.2.2.1 hP (hC.2.2.2.2.2.2.2 M) hS q ((ws_get hF.1).trans (by rw [e1])) h1 k h2 (va_Nw.use rfl (hC.2.2.2.2.2.2.1 _ hw)) (fun _ h9 => by rw [← h4]; exact h9) p4 p5 rfl rfl hlen hd (fun H1 locs1 hP1 _ hS1 => kk ls H1 locs1 hl (hset H1 hP1) hS1)
theorem V_iret (hC : Cx p s m args c cc own nL G) (hr : meth.sig.returnType = some .int) (hlk : meth.locks = false) {v : Int32} (hd : decode cc pc = .ok (.ireturn, 1)) : V p l e R s m args below meth c nL G cells slots (MQ below (gQ G (some (.int v)) M) args s cells slots (gA G)) pc L [.int v] M :=
  fun ls H locs hl hP hS => W.iret hC.1 hC.2.1 hr (fun t ht hW => ⟨rfl, ⟨by rw [ht]; exact hP, va_K.moved hW.alike hC.2.2.2.2.2.1, nw_warm hW hC.2.2.2.2.2.2.1⟩, hS.F ht⟩) hS.2.2 hd hlk
theorem V_zret (hC : Cx p s m args c cc own nL G) (hr : meth.sig.returnType = some .boolean) (hlk : meth.locks = false) {v : Int32} (hv : v = 0 ∨ v = 1) (hd : decode cc pc = .ok (.ireturn, 1)) : V p l e R s m args below meth c nL G cells slots (MQ below (gQ G (some (.int v)) M) args s cells slots (gA G)) pc L [.int v] M :=
  fun ls H locs hl hP hS => W.zret hC.1 hC.2.1 hr (by rcases hv with rfl | rfl <;> decide) (fun t ht hW => ⟨rfl, ⟨by rw [ht]; exact hP, va_K.moved hW.alike hC.2.2.2.2.2.1, nw_warm hW hC.2.2.2.2.2.2.1⟩, hS.F ht⟩) hS.2.2 hd hlk
theorem V_lret (hC : Cx p s m args c cc own nL G) (hr : meth.sig.returnType = some .long) (hlk : meth.locks = false) {v : Int64} (hd : decode cc pc = .ok (.lreturn, 1)) : V p l e R s m args below meth c nL G cells slots (MQ below (gQ G (some (.long v)) M) args s cells slots (gA G)) pc L [.long v] M :=
  fun ls H locs hl hP hS => W.lret hC.1 hC.2.1 hr (fun t ht hW => ⟨rfl, ⟨by rw [ht]; exact hP, va_K.moved hW.alike hC.2.2.2.2.2.1, nw_warm hW hC.2.2.2.2.2.2.1⟩, hS.F ht⟩) hS.2.2 hd hlk
theorem V_vret (hC : Cx p s m args c cc own nL G) (hr : meth.sig.returnType = none) (hlk : meth.locks = false) (hd : decode cc pc = .ok (.return_, 1)) : V p l e R s m args below meth c nL G cells slots (MQ below (gQ G none M) args s cells slots (gA G)) pc L [] M :=
  fun ls H locs hl hP hS => W.vret hC.1 hC.2.1 hr (fun t ht hW => ⟨rfl, ⟨by rw [ht]; exact hP, va_K.moved hW.alike hC.2.2.2.2.2.1, nw_warm hW hC.2.2.2.2.2.2.1⟩, hS.F ht⟩) hS.2.2 hd hlk
/-- behind a call: the answer, and the memory that came back -/
theorem V_call {rv : Option Value} {M' : Mem} {st0 : List Value} {a : Array Value} (hr : ∀ (ls : Array Slot) (H : Heap) (locs : List Loc), lv_has ls nL L → va_P G.1 vwCl (WS G M) H → va_S (gA G) s.heap H locs → va_Run p l e R s m args below meth c H locs cells slots 0 0 (F0 m pc ls st0) st (gQ G rv M' a) (gA G)) (kk : V p l e R s m args below meth c nL G cells slots Q (pc + 3) L (rv.toList ++ st) M') : V p l e R s m args below meth c nL G cells slots Q pc L st0 M := by
  intro ls H locs hl hP hS T hT X
  obtain ⟨v, st₀, t, T', Lc, h0, X', hL, e1, e2, ⟨hv, hb, hz, hk⟩, hgo⟩ := hr ls H locs hl hP hS T hT X
  have hv' : v = rv := by cases hv; rfl
  subst hv'
  rw [h0] at hz hk
  obtain ⟨t2, a1, b1⟩ := kk ls T'.heap (locs ++ Lc) hl (by rw [e1]; exact hb.1)
    ⟨Nat.le_trans hS.1 (by rw [e1]; exact hz), fun q h1 h2 => by rw [e1, hk q (Nat.lt_of_lt_of_le h1 hS.1) h2]; exact hS.2.1 q h1 h2, fun q hq => by
      rcases List.mem_append.mp hq with h | h
      · exact hS.2.2 q h
      · exact hL q h⟩ T' rfl X'
  exact ⟨t2, hgo t2 a1, b1⟩
/-- the tables' words of a call: instance method by its class, static, and those of nest mates -/
def cwn (y : MethodName) (n : Nat) : Prop := y.cls ≠ "java/lang/invoke/MethodHandle" ∧ y.cls ≠ "java/lang/invoke/VarHandle" ∧ (parseMethodDescriptor y.desc).map (fun d => d.parameters.length) = some n
def cwd (y : MethodName) (bytes : ByteArray) (maxL : Nat) (ret : Option FieldType) (n : Nat) : Prop := Cond.initialized y.cls ∈ GL ∧ Cond.code y bytes maxL ret ∈ GL ∧ cwn y n
def cwv (y : MethodName) : Prop := Cond.instanceMethod y ∈ GL ∧ Cond.selects y.cls y y ∈ GL
theorem good_code {y : MethodName} {bytes : ByteArray} {maxL : Nat} {ret : Option FieldType} {n : Nat} (h : cwd y bytes maxL ret n) : GoodIn GL (.code y bytes maxL ret :: GL) := fun w hw => by
  rcases List.mem_cons.mp hw with rfl | hw
  · exact ⟨h.2.1, GL_good _ h.2.1⟩
  · exact ⟨hw, GL_good _ hw⟩
theorem pre_S (hC : Cx p s m args c cc own nL G) {H : Heap} {av : List Value} (hP : va_P G.1 vwCl (WS G M) H) : PreS s H (gP G av M) av :=
  ⟨gP_blind G av M, fun U hU hW => ⟨rfl, by rw [hU]; exact hP, va_K.moved hW.alike hC.2.2.2.2.2.1, nw_warm hW hC.2.2.2.2.2.2.1⟩⟩
theorem pre_V (hC : Cx p s m args c cc own nL G) {H : Heap} {g j q ci : Nat} {As : List Value} {Cn : String} {T : u_T} {N : Nat} (hP : va_P G.1 vwCl (WS G M) H) (ho : isO G g j q ci) (hci : vwCl[ci]? = some (Cn, T, N)) : PreV s H Cn (adr G g j) (gP G (.ref (adr G g j) :: As) M) As := by
  refine ⟨gP_blind G _ M, ?_, (pre_S hC hP).2⟩
  obtain ⟨fs, h1⟩ := ho.2 (M.1 g j) (M.2 g)
  exact va_recv hC.2.2.2.2.2.1 hP hci ((ws_get ho.1).trans (by rw [h1]))
theorem V_cVr (hC : Cx p s m args c cc own nL G) {y : MethodName} {bytes : ByteArray} {maxL n a index : Nat} {ret : Option FieldType} {v : Value} {M' : Mem} (As : List Value) {g j q ci : Nat} {T : u_T} {N : Nat} (hM : Met l y (.code y bytes maxL ret :: GL) (rmk a) (gP G (.ref (adr G g j) :: As) M) (gQ G (some v) M') 0 0 (gA G)) (hw : cwd y bytes maxL ret n) (hv : cwv y) (hl : Cond.methodLink own index y ∈ GL) (ho : isO G g j q ci) (hci : vwCl[ci]? = some (y.cls, T, N)) (hR : a + 1 ≤ R.frames ∧ 8 + (maxL + 11) + 60 * a ≤ R.locals) (hn : As.length = n) (hst : (st.map fun v => v.category).sum ≤ 8) (hd : decode cc pc = .ok (.invokevirtual index, 3)) (hf : cells ≤ R.cells ∧ slots ≤ R.slots) {st0 : List Value} (hst0 : st0 = As.reverse ++ .ref (adr G g j) :: st) (kk : V p l e R s m args below meth c nL G cells slots Q (pc + 3) L (v :: st) M') : V p l e R s m args below meth c nL G cells slots Q pc L st0 M :=
  V_call (rv := (some v)) (fun ls H locs hl9 hP hS => va_runV (rest := st) ⟨hC.1, hC.2.1, hC.2.2.1, hC.2.2.2.1, hC.2.2.2.2.1⟩ hM ⟨callB_of n hC.2.2.2.2.1 (good_code hw) rfl rfl rfl (hC.2.2.2.2.1 _ hw.1) (hC.2.2.2.2.1 _ hl) hw.2.2 hR, hC.2.2.2.2.1 _ hv.1, hC.2.2.2.2.1 _ hv.2⟩ (pre_V hC hP ho hci) rfl hn hl9.1 hst0 (lv_room hst) hd hf) kk
theorem V_cVv (hC : Cx p s m args c cc own nL G) {y : MethodName} {bytes : ByteArray} {maxL n a index : Nat} {ret : Option FieldType} {M' : Mem} (As : List Value) {g j q ci : Nat} {T : u_T} {N : Nat} (hM : Met l y (.code y bytes maxL ret :: GL) (rmk a) (gP G (.ref (adr G g j) :: As) M) (gQ G none M') 0 0 (gA G)) (hw : cwd y bytes maxL ret n) (hv : cwv y) (hl : Cond.methodLink own index y ∈ GL) (ho : isO G g j q ci) (hci : vwCl[ci]? = some (y.cls, T, N)) (hR : a + 1 ≤ R.frames ∧ 8 + (maxL + 11) + 60 * a ≤ R.locals) (hn : As.length = n) (hst : (st.map fun v => v.category).sum ≤ 8) (hd : decode cc pc = .ok (.invokevirtual index, 3)) (hf : cells ≤ R.cells ∧ slots ≤ R.slots) {st0 : List Value} (hst0 : st0 = As.reverse ++ .ref (adr G g j) :: st) (kk : V p l e R s m args below meth c nL G cells slots Q (pc + 3) L st M') : V p l e R s m args below meth c nL G cells slots Q pc L st0 M :=
  V_call (rv := none) (fun ls H locs hl9 hP hS => va_runV (rest := st) ⟨hC.1, hC.2.1, hC.2.2.1, hC.2.2.2.1, hC.2.2.2.2.1⟩ hM ⟨callB_of n hC.2.2.2.2.1 (good_code hw) rfl rfl rfl (hC.2.2.2.2.1 _ hw.1) (hC.2.2.2.2.1 _ hl) hw.2.2 hR, hC.2.2.2.2.1 _ hv.1, hC.2.2.2.2.1 _ hv.2⟩ (pre_V hC hP ho hci) rfl hn hl9.1 hst0 (lv_room hst) hd hf) kk
theorem V_cSr (hC : Cx p s m args c cc own nL G) {y : MethodName} {bytes : ByteArray} {maxL n a index : Nat} {ret : Option FieldType} {v : Value} {M' : Mem} (As : List Value) (hM : Met l y (.code y bytes maxL ret :: GL) (rmk a) (gP G As M) (gQ G (some v) M') 0 0 (gA G)) (hw : cwd y bytes maxL ret n) (hs : Cond.static y ∈ GL) (hl : Cond.methodLink own index y ∈ GL) (hR : a + 1 ≤ R.frames ∧ 8 + (maxL + 11) + 60 * a ≤ R.locals) (hn : As.length = n) (hst : (st.map fun v => v.category).sum ≤ 8) (hd : decode cc pc = .ok (.invokestatic index, 3)) (hf : cells ≤ R.cells ∧ slots ≤ R.slots) {st0 : List Value} (hst0 : st0 = As.reverse ++ st) (kk : V p l e R s m args below meth c nL G cells slots Q (pc + 3) L (v :: st) M') : V p l e R s m args below meth c nL G cells slots Q pc L st0 M :=
  V_call (rv := (some v)) (fun ls H locs hl9 hP hS => va_runS (rest := st) ⟨hC.1, hC.2.1, hC.2.2.1, hC.2.2.2.1, hC.2.2.2.2.1⟩ hM ⟨callB_of n hC.2.2.2.2.1 (good_code hw) rfl rfl rfl (hC.2.2.2.2.1 _ hw.1) (hC.2.2.2.2.1 _ hl) hw.2.2 hR, hC.2.2.2.2.1 _ hs⟩ (pre_S hC hP) rfl hn hl9.1 hst0 (lv_room hst) hd hf) kk
theorem V_cSv (hC : Cx p s m args c cc own nL G) {y : MethodName} {bytes : ByteArray} {maxL n a index : Nat} {ret : Option FieldType} {M' : Mem} (As : List Value) (hM : Met l y (.code y bytes maxL ret :: GL) (rmk a) (gP G As M) (gQ G none M') 0 0 (gA G)) (hw : cwd y bytes maxL ret n) (hs : Cond.static y ∈ GL) (hl : Cond.methodLink own index y ∈ GL) (hR : a + 1 ≤ R.frames ∧ 8 + (maxL + 11) + 60 * a ≤ R.locals) (hn : As.length = n) (hst : (st.map fun v => v.category).sum ≤ 8) (hd : decode cc pc = .ok (.invokestatic index, 3)) (hf : cells ≤ R.cells ∧ slots ≤ R.slots) {st0 : List Value} (hst0 : st0 = As.reverse ++ st) (kk : V p l e R s m args below meth c nL G cells slots Q (pc + 3) L st M') : V p l e R s m args below meth c nL G cells slots Q pc L st0 M :=
  V_call (rv := none) (fun ls H locs hl9 hP hS => va_runS (rest := st) ⟨hC.1, hC.2.1, hC.2.2.1, hC.2.2.2.1, hC.2.2.2.2.1⟩ hM ⟨callB_of n hC.2.2.2.2.1 (good_code hw) rfl rfl rfl (hC.2.2.2.2.1 _ hw.1) (hC.2.2.2.2.1 _ hl) hw.2.2 hR, hC.2.2.2.2.1 _ hs⟩ (pre_S hC hP) rfl hn hl9.1 hst0 (lv_room hst) hd hf) kk
theorem V_cVNr (hC : Cx p s m args c cc own nL G) {y : MethodName} {bytes : ByteArray} {maxL n a index : Nat} {ret : Option FieldType} {v : Value} {M' : Mem} (As : List Value) {g j q ci : Nat} {T : u_T} {N : Nat} (hM : Met l y (.code y bytes maxL ret :: GL) (rmk a) (gP G (.ref (adr G g j) :: As) M) (gQ G (some v) M') 0 0 (gA G)) (hw : cwd y bytes maxL ret n) (hv : cwv y) {host : String} (hl : Cond.methodLinkNest own index y host ∈ NW) (ho : isO G g j q ci) (hci : vwCl[ci]? = some (y.cls, T, N)) (hR : a + 1 ≤ R.frames ∧ 8 + (maxL + 11) + 60 * a ≤ R.locals) (hn : As.length = n) (hst : (st.map fun v => v.category).sum ≤ 8) (hd : decode cc pc = .ok (.invokevirtual index, 3)) (hf : cells ≤ R.cells ∧ slots ≤ R.slots) {st0 : List Value} (hst0 : st0 = As.reverse ++ .ref (adr G g j) :: st) (kk : V p l e R s m args below meth c nL G cells slots Q (pc + 3) L (v :: st) M') : V p l e R s m args below meth c nL G cells slots Q pc L st0 M :=
  V_call (rv := (some v)) (fun ls H locs hl9 hP hS => va_runVN (rest := st) ⟨hC.1, hC.2.1, hC.2.2.1, hC.2.2.2.1, hC.2.2.2.2.1⟩ hM ⟨va_cnB n hC.2.2.2.2.1 (good_code hw) rfl rfl rfl (hC.2.2.2.2.2.2.1 _ hl) (hC.2.2.2.2.1 _ hw.1) hw.2.2 hR, hC.2.2.2.2.1 _ hv.1, hC.2.2.2.2.1 _ hv.2⟩ (pre_V hC hP ho hci) rfl hn hl9.1 hst0 (lv_room hst) hd hf) kk
theorem V_cVNv (hC : Cx p s m args c cc own nL G) {y : MethodName} {bytes : ByteArray} {maxL n a index : Nat} {ret : Option FieldType} {M' : Mem} (As : List Value) {g j q ci : Nat} {T : u_T} {N : Nat} (hM : Met l y (.code y bytes maxL ret :: GL) (rmk a) (gP G (.ref (adr G g j) :: As) M) (gQ G none M') 0 0 (gA G)) (hw : cwd y bytes maxL ret n) (hv : cwv y) {host : String} (hl : Cond.methodLinkNest own index y host ∈ NW) (ho : isO G g j q ci) (hci : vwCl[ci]? = some (y.cls, T, N)) (hR : a + 1 ≤ R.frames ∧ 8 + (maxL + 11) + 60 * a ≤ R.locals) (hn : As.length = n) (hst : (st.map fun v => v.category).sum ≤ 8) (hd : decode cc pc = .ok (.invokevirtual index, 3)) (hf : cells ≤ R.cells ∧ slots ≤ R.slots) {st0 : List Value} (hst0 : st0 = As.reverse ++ .ref (adr G g j) :: st) (kk : V p l e R s m args below meth c nL G cells slots Q (pc + 3) L st M') : V p l e R s m args below meth c nL G cells slots Q pc L st0 M :=
  V_call (rv := none) (fun ls H locs hl9 hP hS => va_runVN (rest := st) ⟨hC.1, hC.2.1, hC.2.2.1, hC.2.2.2.1, hC.2.2.2.2.1⟩ hM ⟨va_cnB n hC.2.2.2.2.1 (good_code hw) rfl rfl rfl (hC.2.2.2.2.2.2.1 _ hl) (hC.2.2.2.2.1 _ hw.1) hw.2.2 hR, hC.2.2.2.2.1 _ hv.1, hC.2.2.2.2.1 _ hv.2⟩ (pre_V hC hP ho hci) rfl hn hl9.1 hst0 (lv_room hst) hd hf) kk
theorem V_cSNr (hC : Cx p s m args c cc own nL G) {y : MethodName} {bytes : ByteArray} {maxL n a index : Nat} {ret : Option FieldType} {v : Value} {M' : Mem} (As : List Value) (hM : Met l y (.code y bytes maxL ret :: GL) (rmk a) (gP G As M) (gQ G (some v) M') 0 0 (gA G)) (hw : cwd y bytes maxL ret n) (hs : Cond.static y ∈ GL) {host : String} (hl : Cond.methodLinkNest own index y host ∈ NW) (hR : a + 1 ≤ R.frames ∧ 8 + (maxL + 11) + 60 * a ≤ R.locals) (hn : As.length = n) (hst : (st.map fun v => v.category).sum ≤ 8) (hd : decode cc pc = .ok (.invokestatic index, 3)) (hf : cells ≤ R.cells ∧ slots ≤ R.slots) {st0 : List Value} (hst0 : st0 = As.reverse ++ st) (kk : V p l e R s m args below meth c nL G cells slots Q (pc + 3) L (v :: st) M') : V p l e R s m args below meth c nL G cells slots Q pc L st0 M :=
  V_call (rv := (some v)) (fun ls H locs hl9 hP hS => va_runSN (rest := st) ⟨hC.1, hC.2.1, hC.2.2.1, hC.2.2.2.1, hC.2.2.2.2.1⟩ hM ⟨va_cnB n hC.2.2.2.2.1 (good_code hw) rfl rfl rfl (hC.2.2.2.2.2.2.1 _ hl) (hC.2.2.2.2.1 _ hw.1) hw.2.2 hR, hC.2.2.2.2.1 _ hs, trivial⟩ (pre_S hC hP) rfl hn hl9.1 hst0 (lv_room hst) hd hf) kk
theorem V_cSNv (hC : Cx p s m args c cc own nL G) {y : MethodName} {bytes : ByteArray} {maxL n a index : Nat} {ret : Option FieldType} {M' : Mem} (As : List Value) (hM : Met l y (.code y bytes maxL ret :: GL) (rmk a) (gP G As M) (gQ G none M') 0 0 (gA G)) (hw : cwd y bytes maxL ret n) (hs : Cond.static y ∈ GL) {host : String} (hl : Cond.methodLinkNest own index y host ∈ NW) (hR : a + 1 ≤ R.frames ∧ 8 + (maxL + 11) + 60 * a ≤ R.locals) (hn : As.length = n) (hst : (st.map fun v => v.category).sum ≤ 8) (hd : decode cc pc = .ok (.invokestatic index, 3)) (hf : cells ≤ R.cells ∧ slots ≤ R.slots) {st0 : List Value} (hst0 : st0 = As.reverse ++ st) (kk : V p l e R s m args below meth c nL G cells slots Q (pc + 3) L st M') : V p l e R s m args below meth c nL G cells slots Q pc L st0 M :=
  V_call (rv := none) (fun ls H locs hl9 hP hS => va_runSN (rest := st) ⟨hC.1, hC.2.1, hC.2.2.1, hC.2.2.2.1, hC.2.2.2.2.1⟩ hM ⟨va_cnB n hC.2.2.2.2.1 (good_code hw) rfl rfl rfl (hC.2.2.2.2.2.2.1 _ hl) (hC.2.2.2.2.1 _ hw.1) hw.2.2 hR, hC.2.2.2.2.1 _ hs, trivial⟩ (pre_S hC hP) rfl hn hl9.1 hst0 (lv_room hst) hd hf) kk
end VR
