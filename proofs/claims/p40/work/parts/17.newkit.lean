/-! ===== constructors: the walk N over a world that grows: what stood before (wx), and the cells that this call has made (w), each at the next address ===== -/
def N (p : Program) (l : Launch) (e : Env) (R : Room) (s : State) (m : MethodId) (args : Array Value) (below : List Frame) (meth : Method) (c : Code) (nL : Nat) (G : Geo) (cells slots : Nat) (Q : State → Prop) (pc : Nat) (L : List (Nat × Value)) (st : List Value) (wx w : va_W) (sz : Nat) : Prop :=
  ∀ (ls : Array Slot) (H : Heap) (locs : List Loc), lv_has ls nL L → va_P G.1 vwCl (wx ++ w) H → va_D (gA G) (wx ++ w) → va_S (gA G) s.heap H locs → H.size = sz → W p l e R s m args below meth c H locs cells slots Q (F0 m pc ls st)
def NA (G : Geo) (s : State) : Prop := (∀ q, s.heap.size ≤ q → gA G q) ∧ va_AO "SectionDesk$Desk" s
abbrev nP (G : Geo) (av : List Value) (w : va_W) (sz : Nat) : Array Value → State → Prop := fun v U => v = av.toArray ∧ va_P G.1 vwCl w U.heap ∧ va_D (gA G) w ∧ va_K G.1 vwCl (gTy G) U ∧ (∀ w ∈ NW, va_Nw w U) ∧ U.heap.size = sz ∧ (∀ q, sz ≤ q → gA G q) ∧ va_AO "SectionDesk$Desk" U
def nQ (G : Geo) (w : va_W) (sz : Nat) : Array Value → State → Outcome → State → Prop := fun _ st oc t => oc = .returned none ∧ (va_P G.1 vwCl w t.heap ∧ va_D (gA G) w ∧ t.heap.size = sz) ∧ va_F (gA G) st t
abbrev rmn (n cells slots : Nat) : Room := { frames := n, cells := cells, slots := slots, locals := 60 * n }
theorem nP_blind (G : Geo) (av : List Value) (w : va_W) (sz : Nat) : FrameBlind (nP G av w sz) := fun a U g mk h => ⟨h.1, h.2.1, h.2.2.1, va_K.moved (u := U) (U := U.calling g mk a) (Vm.Alike.refl U.vm) h.2.2.2.1, nw_same (s := U) (U := U.calling g mk a) rfl h.2.2.2.2.1, h.2.2.2.2.2.1, h.2.2.2.2.2.2.1, va_AO.moved (u := U) (U := U.calling g mk a) (Vm.Alike.refl U.vm) h.2.2.2.2.2.2.2⟩
theorem wx_get (wx w : va_W) (i : Nat) : (wx ++ w)[wx.length + i]? = w[i]? := by
  rw [List.getElem?_append_right (Nat.le_add_right _ _), Nat.add_sub_cancel_left]
theorem wx_set (wx w : va_W) (i : Nat) (v : Nat × va_E) : (wx ++ w).set (wx.length + i) v = wx ++ w.set i v := by
  rw [List.set_append_right _ _ (Nat.le_add_right _ _), Nat.add_sub_cancel_left]
/-- a constructor's contract out of the walk N of its body -/
theorem NMet_of {l : Launch} {y : MethodName} {cc : ByteArray} {maxL a mc ms : Nat} {own : String} {G : Geo} (hG : gD G) {av : List Value} {wx w w1 : va_W} {sz sz1 : Nat} {L : List (Nat × Value)} (hy : plainName y.cls = true) (hown : y.cls = own) (hav : (lg_sl av).length ≤ maxL) (hL : lv_args 0 av = L)
    (body : ∀ (p : Program) (e : Env) (s : State) (m : MethodId) (args : Array Value) (below : List Frame) (meth : Method) (c : Code), Cx p s m args c cc own maxL G → NA G s → meth.name = y.name → meth.sig.returnType = none → meth.locks = false → N p l e (rmn a mc ms) s m args below meth c maxL G 0 0 (MQ below (nQ G (wx ++ w1) sz1) args s mc ms (gA G)) 0 L [] wx w sz) :
    Met l y (.code y cc maxL none :: GL) (rmn a mc ms) (nP G av (wx ++ w) sz) (nQ G (wx ++ w1) sz1) mc ms (gA G) := by
  refine Met.ofW (cc := cc) (maxL := maxL) (ret := none) hy rfl ?_
  intro p e s m args below meth c s₁ B hml hv
  obtain ⟨rfl, hP, hD, hK, hN, hsz, hA, hO⟩ := hv
  have hts := atoms_spec (ws := .code y cc maxL none :: GL) B.pre
  have hfc : s.vm.findClass own = some m.cls := by rw [← hown]; exact findClass_of_methodNamed B.named
  have hS : va_S (gA G) s.heap s.heap [] := va_S.rf
  have hl := lv_entry av (n := maxL) hav
  rw [hL] at hl
  rw [lg_entry_eq]
  exact body p e s m av.toArray below meth c ⟨B.exec, B.bytes, hml, hfc, fun w hw => hts w (List.mem_cons_of_mem _ hw), hK, hN, hG⟩ ⟨fun q hq => hA q (by rw [← hsz]; exact hq), hO⟩ (name_of_methodNamed B.named B.method).1 B.returns B.notSynchronized _ _ _ hl hP hD hS hsz
section VN
variable {p : Program} {l : Launch} {e : Env} {R : Room} {s : State} {m : MethodId} {args : Array Value} {below : List Frame} {meth : Method} {c : Code} {cells slots : Nat} {Q : State → Prop} {cc : ByteArray} {own : String} {nL : Nat} {G : Geo} {pc : Nat} {L L' : List (Nat × Value)} {st : List Value} {wx w : va_W} {sz : Nat}
theorem N_aload_n (hC : Cx p s m args c cc own nL G) {n : Fin 4} {i : Nat} {x : Nat} (hd : decode cc pc = .ok (.aload_n n, 1)) (hi : (n : Nat) = i) (k : Nat) (hk : L[k]? = some (i, .ref x)) (kk : N p l e R s m args below meth c nL G cells slots Q (pc + 1) L (.ref x :: st) wx w sz) : N p l e R s m args below meth c nL G cells slots Q pc L st wx w sz :=
  fun ls H locs hl hP hD hS hz => lv_aload_n hC.1 hC.2.1 hd hi (lv_at hl k hk) (kk ls H locs hl hP hD hS hz)
theorem N_iload_n (hC : Cx p s m args c cc own nL G) {n : Fin 4} {i : Nat} {x : Int32} (hd : decode cc pc = .ok (.iload_n n, 1)) (hi : (n : Nat) = i) (k : Nat) (hk : L[k]? = some (i, .int x)) (kk : N p l e R s m args below meth c nL G cells slots Q (pc + 1) L (.int x :: st) wx w sz) : N p l e R s m args below meth c nL G cells slots Q pc L st wx w sz :=
  fun ls H locs hl hP hD hS hz => lv_iload_n hC.1 hC.2.1 hd hi (lv_at hl k hk) (kk ls H locs hl hP hD hS hz)
theorem N_istore_n (hC : Cx p s m args c cc own nL G) {n : Fin 4} {i : Nat} {x : Int32} (L' : List (Nat × Value)) (hd : decode cc pc = .ok (.istore_n n, 1)) (hi : (n : Nat) = i) (hn : i < nL) (hL : (i, Value.int x) :: L.filter (fun q => !(q.1 == i) && !(q.1 + 1 == i && q.2.category == 2)) = L') (kk : N p l e R s m args below meth c nL G cells slots Q (pc + 1) L' st wx w sz) : N p l e R s m args below meth c nL G cells slots Q pc L (.int x :: st) wx w sz :=
  fun ls H locs hl hP hD hS hz => lv_istore_n hC.1 hC.2.1 hd hi hl hn hL (fun ls hl => kk ls H locs hl hP hD hS hz)
theorem N_istore (hC : Cx p s m args c cc own nL G) {i : Nat} {x : Int32} (L' : List (Nat × Value)) (hd : decode cc pc = .ok (.istore i, 2)) (hn : i < nL) (hL : (i, Value.int x) :: L.filter (fun q => !(q.1 == i) && !(q.1 + 1 == i && q.2.category == 2)) = L') (kk : N p l e R s m args below meth c nL G cells slots Q (pc + 2) L' st wx w sz) : N p l e R s m args below meth c nL G cells slots Q pc L (.int x :: st) wx w sz :=
  fun ls H locs hl hP hD hS hz => lv_istore hC.1 hC.2.1 hd hl hn hL (fun ls hl => kk ls H locs hl hP hD hS hz)
theorem N_astore_n (hC : Cx p s m args c cc own nL G) {n : Fin 4} {i : Nat} {x : Nat} (L' : List (Nat × Value)) (hd : decode cc pc = .ok (.astore_n n, 1)) (hi : (n : Nat) = i) (hn : i < nL) (hL : (i, Value.ref x) :: L.filter (fun q => !(q.1 == i) && !(q.1 + 1 == i && q.2.category == 2)) = L') (kk : N p l e R s m args below meth c nL G cells slots Q (pc + 1) L' st wx w sz) : N p l e R s m args below meth c nL G cells slots Q pc L (.ref x :: st) wx w sz :=
  fun ls H locs hl hP hD hS hz => lv_astore_n hC.1 hC.2.1 hd hi hl hn hL (fun ls hl => kk ls H locs hl hP hD hS hz)
theorem N_iinc (hC : Cx p s m args c cc own nL G) {i : Nat} {n : Int} {x : Int32} (v : Int32) (L' : List (Nat × Value)) (hd : decode cc pc = .ok (.iinc i n, 3)) (k : Nat) (hk : L[k]? = some (i, .int x)) (hv : x + Int32.ofInt n = v) (hn : i < nL) (hL : (i, Value.int v) :: L.filter (fun q => !(q.1 == i) && !(q.1 + 1 == i && q.2.category == 2)) = L') (kk : N p l e R s m args below meth c nL G cells slots Q (pc + 3) L' st wx w sz) : N p l e R s m args below meth c nL G cells slots Q pc L st wx w sz :=
  fun ls H locs hl hP hD hS hz => lv_iinc hC.1 hC.2.1 hd hl hk hv hn hL (fun ls hl => kk ls H locs hl hP hD hS hz)
theorem N_goto (hC : Cx p s m args c cc own nL G) {off : Int} (tgt : Nat) (hd : decode cc pc = .ok (.goto off, 3)) (ht : (pc : Int) + off = (tgt : Int)) (kk : N p l e R s m args below meth c nL G cells slots Q tgt L st wx w sz) : N p l e R s m args below meth c nL G cells slots Q pc L st wx w sz :=
  fun ls H locs hl hP hD hS hz => lv_goto hC.1 hC.2.1 hd ht (kk ls H locs hl hP hD hS hz)
theorem N_icmp_ge (hC : Cx p s m args c cc own nL G) {off : Int} (tgt : Nat) {x y : Int32} (hd : decode cc pc = .ok (.if_icmp .ge off, 3)) (ht : (pc : Int) + off = (tgt : Int)) (k1 : y ≤ x → N p l e R s m args below meth c nL G cells slots Q tgt L st wx w sz) (k2 : ¬ y ≤ x → N p l e R s m args below meth c nL G cells slots Q (pc + 3) L st wx w sz) : N p l e R s m args below meth c nL G cells slots Q pc L (.int y :: .int x :: st) wx w sz :=
  fun ls H locs hl hP hD hS hz => lv_icmp_ge (tgt := tgt) hC.1 hC.2.1 hd ht (fun h => k1 h ls H locs hl hP hD hS hz) (fun h => k2 h ls H locs hl hP hD hS hz)
theorem N_iconst (hC : Cx p s m args c cc own nL G) {n : Int} (v : Int32) (hd : decode cc pc = .ok (.iconst n, 1)) (hv : Int32.ofInt n = v) (kk : N p l e R s m args below meth c nL G cells slots Q (pc + 1) L (.int v :: st) wx w sz) : N p l e R s m args below meth c nL G cells slots Q pc L st wx w sz :=
  fun ls H locs hl hP hD hS hz => lv_iconst hC.1 hC.2.1 hd hv (kk ls H locs hl hP hD hS hz)
theorem N_bipush (hC : Cx p s m args c cc own nL G) {n : Int} (v : Int32) (hd : decode cc pc = .ok (.bipush n, 2)) (hv : (Int8.ofInt n).toInt32 = v) (kk : N p l e R s m args below meth c nL G cells slots Q (pc + 2) L (.int v :: st) wx w sz) : N p l e R s m args below meth c nL G cells slots Q pc L st wx w sz :=
  fun ls H locs hl hP hD hS hz => lv_bipush hC.1 hC.2.1 hd hv (kk ls H locs hl hP hD hS hz)
theorem N_sipush (hC : Cx p s m args c cc own nL G) {n : Int} (v : Int32) (hd : decode cc pc = .ok (.sipush n, 3)) (hv : (Int16.ofInt n).toInt32 = v) (kk : N p l e R s m args below meth c nL G cells slots Q (pc + 3) L (.int v :: st) wx w sz) : N p l e R s m args below meth c nL G cells slots Q pc L st wx w sz :=
  fun ls H locs hl hP hD hS hz => lv_sipush hC.1 hC.2.1 hd hv (kk ls H locs hl hP hD hS hz)
theorem N_dup (hC : Cx p s m args c cc own nL G) {v : Value} (hd : decode cc pc = .ok (.dup, 1)) (hv : v.category = 1) (kk : N p l e R s m args below meth c nL G cells slots Q (pc + 1) L (v :: v :: st) wx w sz) : N p l e R s m args below meth c nL G cells slots Q pc L (v :: st) wx w sz :=
  fun ls H locs hl hP hD hS hz => lv_dup hC.1 hC.2.1 hd hv (kk ls H locs hl hP hD hS hz)
theorem N_widen {k n : Nat} (h1 : cells ≤ k) (h2 : slots ≤ n) (kk : N p l e R s m args below meth c nL G k n Q pc L st wx w sz) : N p l e R s m args below meth c nL G cells slots Q pc L st wx w sz :=
  fun ls H locs hl hP hD hS hz => W.widen h1 h2 (kk ls H locs hl hP hD hS hz)
theorem N_objInit (hC : Cx p s m args c cc own nL G) {index x : Nat} (w1 : Cond.methodLink own index objectInit ∈ GL) (w2 : Cond.instanceMethod objectInit ∈ GL) (w3 : Cond.code objectInit ⟨#[0xb1]⟩ 1 none ∈ GL) (hd : decode cc pc = .ok (.invokespecial index, 3)) (hf : 1 ≤ R.frames) (hlo : 12 ≤ R.locals) (kk : N p l e R s m args below meth c nL G cells slots Q (pc + 3) L [] wx w sz) : N p l e R s m args below meth c nL G cells slots Q pc L [.ref x] wx w sz := by
  intro ls H locs hl hP hD hS hz
  refine W.objInit hC.1 hC.2.1 hC.2.2.2.1 (hC.2.2.2.2.1 _ w1) (hC.2.2.2.2.1 _ w2) (hC.2.2.2.2.1 _ w3) rfl (by rw [hC.2.2.1]; exact hl.1) rfl hd hf hlo (kk ls H locs hl hP hD hS hz)
/-- a new array of ints (or booleans, or longs): at the next address -/
theorem N_newa (hC : Cx p s m args c cc own nL G) (hA : NA G s) {atype : ArrayType} (harr : Cond.arrayClass (newarray.typeOf atype) ∈ GL) {ty : FieldType} (hty : newarray.typeOf atype = ty) (t0 : Nat) {cA0 : ClassId} (ht : (gTy G)[t0]? = some (cA0, ty)) (hno : ∀ C, ty ≠ .object C) {n : Int32} (N' : Nat) (a0 : vp_A) (ha : ∀ cA : ClassId, vp_cell cA a0 = arrV cA N' (fun _ => defaultValue ty)) (hn : ¬ n < 0) (hN : n.toNatClampNeg = N') (hbytes : N' * componentBytes ty ≤ 536870912) (hcells : cells + 1 ≤ R.cells) (hslots : slots + N' ≤ R.slots) (hd : decode cc pc = .ok (.newarray atype, 2)) (a : Nat) (hz : sz = a)
    (kk : N p l e R s m args below meth c nL G (cells + 1) (slots + N') Q (pc + 2) L (.ref a :: st) wx (w ++ [(a, .inl (cA0, a0))]) (a + 1)) : N p l e R s m args below meth c nL G cells slots Q pc L (.int n :: st) wx w sz := by
  subst hz
  intro ls H locs hl hP hD hS hz
  subst hz
  subst hty
  refine va_newaK hC.1 hC.2.1 (hC.2.2.2.2.1 _ harr) rfl hd rfl hn hN hbytes hcells hslots rfl fun H1 cA e1 z1 o1 hAr hNm => ?_
  have hk : ∀ (k : Nat) (x : Nat × va_E), (wx ++ w)[k]? = some x → H1[x.1]? = H[x.1]? := fun k x hx => o1 x.1 ((hP k x hx).lt)
  have hRA := (hC.2.2.2.2.2.1.2 t0 _ ht).2
  have hcc : cA0 = cA := by
    have h9 : s.vm.findClass ("[" ++ (newarray.typeOf atype).toString) = some cA0 := by
      revert hRA hno
      cases newarray.typeOf atype <;> intro hno hRA <;> first | exact hRA | exact absurd rfl (hno _)
    rw [h9] at hNm
    exact Option.some.inj hNm
  subst hcc
  refine kk _ H1 locs hl ?_ ?_ ⟨Nat.le_trans hS.1 (by omega), fun x h1 h2 => (o1 x (Nat.lt_of_lt_of_le h1 hS.1)).trans (hS.2.1 x h1 h2), hS.2.2⟩ z1
  · rw [← List.append_assoc]
    refine (hP.kept hk).app (fun k x hx => ?_)
    have hz : k < 1 := (List.getElem?_eq_some_iff.mp hx).1
    rw [show k = 0 by omega] at hx
    cases hx
    show H1[H.size]? = some (vp_cell _ _)
    rw [ha]
    exact e1
  · rw [← List.append_assoc]
    exact hD.push hP rfl (hA.1 _ hS.1)
/-- a new object: at the next address -/
theorem N_new (hC : Cx p s m args c cc own nL G) (hA : NA G s) {C : String} {T : u_T} {N0 ci index : Nat} (hin : ∀ w ∈ u_ws C T N0, w ∈ GL) (ty : Nat → FieldType) (hty : ∀ k, k < N0 → parseFieldDescriptor (T k).2.2.1 = some (ty k)) (hcl : Cond.classLink own index C ∈ GL) (hinst : Cond.instantiable C N0 ∈ GL) (hini : Cond.initialized C ∈ GL) (hc : vwCl[ci]? = some (C, T, N0)) (fs : List Value) (hfs : ∀ j, j < N0 → defaultValue (ty j) = vp_V fs j) (hcells : cells + 1 ≤ R.cells) (hslots : slots + N0 ≤ R.slots) (hd : decode cc pc = .ok (.new index, 3)) (a : Nat) (hz : sz = a)
    (kk : N p l e R s m args below meth c nL G (cells + 1) (slots + N0) Q (pc + 3) L (.ref a :: st) wx (w ++ [(a, .inr (ci, fs))]) (a + 1)) : N p l e R s m args below meth c nL G cells slots Q pc L st wx w sz := by
  subst hz
  intro ls H locs hl hP hD hS hz
  subst hz
  have hKn := hC.2.2.2.2.2.1.1 ci _ hc
  refine W.newcK hC.1 hC.2.1 hC.2.2.2.1 (hC.2.2.2.2.1 _ hcl) (hC.2.2.2.2.1 _ hinst) (hC.2.2.2.2.1 _ hini) rfl hd hcells hslots hKn.2.1 rfl fun H1 kC hkC e1 z1 o1 => ?_
  have hk : ∀ (k : Nat) (x : Nat × va_E), (wx ++ w)[k]? = some x → H1[x.1]? = H[x.1]? := fun k x hx => o1 x.1 ((hP k x hx).lt)
  refine kk _ H1 locs hl ?_ ?_ ⟨Nat.le_trans hS.1 (by omega), fun x h1 h2 => (o1 x (Nat.lt_of_lt_of_le h1 hS.1)).trans (hS.2.1 x h1 h2), hS.2.2⟩ z1
  · rw [← List.append_assoc]
    refine (hP.kept hk).app (fun k x hx => ?_)
    have hz : k < 1 := (List.getElem?_eq_some_iff.mp hx).1
    rw [show k = 0 by omega] at hx
    cases hx
    exact ⟨_, hc, (u_born ty hC.2.2.2.2.1 hin hKn hkC e1 hty).to hfs⟩
  · rw [← List.append_assoc]
    exact hD.push hP rfl (hA.1 _ hS.1)
/-- what reads and writes the cells of this call: by their place in w -/
def flfw (ci k : Nat) (own : String) : Prop := ∃ (Cn : String) (T : u_T) (N : Nat) (ty0 : Nat → FieldType) (ty : FieldType), vwCl[ci]? = some (Cn, T, N) ∧ (∀ k, k < N → parseFieldDescriptor (T k).2.2.1 = some (ty0 k)) ∧ (∀ a, a < N → ∀ b, b < N → a ≠ b → (T a).2.1 ≠ (T b).2.1) ∧ (T k).2.2.2 = true ∧ (T k).1 = own ∧ parseFieldDescriptor (T k).2.2.1 = some ty ∧ (∀ x : Nat, narrow ty (.ref x) = .ref x) ∧ (∀ x : Nat, fits ty (.ref x) = true)
theorem N_sub (ks : List Nat) (hL : lv_pick L ks = L') (kk : N p l e R s m args below meth c nL G cells slots Q pc L' st wx w sz) : N p l e R s m args below meth c nL G cells slots Q pc L st wx w sz :=
  fun ls H locs hl hP hD hS hz => kk ls H locs (lv_sub hl ks hL) hP hD hS hz
theorem N_w {w' : va_W} (h : w = w') (kk : N p l e R s m args below meth c nL G cells slots Q pc L st wx w' sz) : N p l e R s m args below meth c nL G cells slots Q pc L st wx w sz := by
  rw [h]; exact kk
theorem N_sz {sz' : Nat} (h : sz = sz') (kk : N p l e R s m args below meth c nL G cells slots Q pc L st wx w sz') : N p l e R s m args below meth c nL G cells slots Q pc L st wx w sz := by
  rw [h]; exact kk
theorem N_get (hC : Cx p s m args c cc own nL G) {host nm : String} {index ci k a : Nat} {fs : List Value} {v : Value} (i : Nat) (hf : fldw own index ci k nm host) (he : w[i]? = some (a, .inr (ci, fs))) (hv : fs[k]? = some v) (hd : decode cc pc = .ok (.getfield index, 3)) (kk : N p l e R s m args below meth c nL G cells slots Q (pc + 3) L (v :: st) wx w sz) : N p l e R s m args below meth c nL G cells slots Q pc L (.ref a :: st) wx w sz := by
  obtain ⟨Cn, T, N0, h1, h2, h3, h4, h5, h6⟩ := hf
  intro ls H locs hl hP hD hS hz
  have he2 : (wx ++ w)[wx.length + i]? = some (a, .inr (ci, fs)) := (wx_get wx w i).trans he
  rcases h6 with hw | hw
  · exact va_get hC.1 hC.2.1 hC.2.2.2.2.1 h3 hC.2.2.2.1 hC.2.2.2.2.2.1 hP (wx.length + i) he2 h1 k h2 (hC.2.2.2.2.1 _ hw) (fun _ h9 => by rw [← h4]; exact h9) hv hd (kk ls H locs hl hP hD hS hz)
  · exact va_getN hC.1 hC.2.1 hC.2.2.2.2.1 h3 hC.2.2.2.1 hC.2.2.2.2.2.1 hP (wx.length + i) he2 h1 k h2 (va_Nw.use rfl (hC.2.2.2.2.2.2.1 _ hw)) (fun _ h9 => by rw [← h4]; exact h9) hv hd (kk ls H locs hl hP hD hS hz)
theorem N_putI (hC : Cx p s m args c cc own nL G) {host nm : String} {index ci k a : Nat} {fs : List Value} {x : Int32} (i : Nat) (hf : fldw own index ci k nm host) (hp : flpw ci k) (hnn : ∀ (ref name desc : String), Cond.fieldLinkNest own index ref name desc host ∉ NW) (he : w[i]? = some (a, .inr (ci, fs))) (hlen : k < fs.length) (hdg : decode cc pc = .ok (.putfield index, 3)) (kk : N p l e R s m args below meth c nL G cells slots Q (pc + 3) L st wx (w.set i (a, .inr (ci, fs.set k (.int x)))) sz) : N p l e R s m args below meth c nL G cells slots Q pc L (.int x :: .ref a :: st) wx w sz := by
  obtain ⟨Cn, T, N0, hc, hk, hin, h4, -, h6⟩ := hf
  obtain ⟨Cn', T', N', ty0, p1, hty, hnm, hfin, hd⟩ := hp
  have hz0 := Option.some.inj (hc.symm.trans p1)
  cases hz0
  rcases h6 with hw | hw
  rotate_left
  · exact absurd hw (hnn _ _ _)
  intro ls H locs hl hP hD hS hz
  have he2 : (wx ++ w)[wx.length + i]? = some (a, .inr (ci, fs)) := (wx_get wx w i).trans he
  have hK := hC.2.2.2.2.2.1
  have hts := hC.2.2.2.2.1
  have hap := va_apart (own := own) hts hin ty0 hty hnm hK hc
  obtain ⟨r, h1, cell, q1, q2, q3, q4⟩ := hP _ _ he2
  have hr : r = (Cn, T, N0) := Option.some.inj (h1.symm.trans hc)
  subst hr
  obtain ⟨hS2, hfc, kC, hkC, hkind⟩ := hK.1 ci _ hc
  obtain ⟨cf, kf, fi, f, hi, hsl⟩ := hS2 k hk
  have hlay := hts _ (hin _ (u_in_lay hk))
  unfold u_lay at hlay
  rw [if_neg (by rw [hfin]; decide)] at hlay
  have hst := (u_facts hfc hkC (u_lays hts hin hk) hi).1
  have h6 := u_store (v := .int x) hfc hkC hkind hlay hi hd rfl rfl
  refine W.putK hC.1 hC.2.1 (f := f) ⟨hC.2.2.2.1, hC.2.2.2.2.1 _ hw, ⟨_, _, _, by rw [← h4]; exact hi⟩, hst⟩ (by rw [q2]; exact h6) q1 q3 (by rw [hsl]; exact k2_hasslot (q4 k hk)) rfl rfl hdg fun H' e1 e2 e3 => ?_
  rw [hsl] at e1 ⊢
  exact kk ls H' _ hl (by rw [← wx_set]; exact hP.set hD he2 ⟨_, hc, t_OB.to (V := updV (vp_V fs) k (.int x)) ⟨_, e1, q2, q3, t_set q4 hap hk _⟩ (fun j _ => vp_updV_set hlen _ j)⟩ e3) (by rw [← wx_set]; exact hD.set he2) (hS.put e2 e3 (hD.2 _ _ he2)) (e2.trans hz)
theorem N_putF (hC : Cx p s m args c cc own nL G) (hin2 : meth.name = "<init>") {host nm : String} {index ci k a x : Nat} {fs : List Value} (i : Nat) (hf : fldw own index ci k nm host) (hp : flfw ci k own) (hnn : ∀ (ref name desc : String), Cond.fieldLinkNest own index ref name desc host ∉ NW) (he : w[i]? = some (a, .inr (ci, fs))) (hlen : k < fs.length) (hdg : decode cc pc = .ok (.putfield index, 3)) (kk : N p l e R s m args below meth c nL G cells slots Q (pc + 3) L st wx (w.set i (a, .inr (ci, fs.set k (.ref x)))) sz) : N p l e R s m args below meth c nL G cells slots Q pc L (.ref x :: .ref a :: st) wx w sz := by
  obtain ⟨Cn, T, N0, hc, hk, hin, h4, -, h6⟩ := hf
  obtain ⟨Cn', T', N', ty0, ty, p1, hty, hnm, hfin, hdecl, hd, hn, hfit⟩ := hp
  have hz0 := Option.some.inj (hc.symm.trans p1)
  cases hz0
  rcases h6 with hw | hw
  rotate_left
  · exact absurd hw (hnn _ _ _)
  intro ls H locs hl hP hD hS hz
  have he2 : (wx ++ w)[wx.length + i]? = some (a, .inr (ci, fs)) := (wx_get wx w i).trans he
  have hK := hC.2.2.2.2.2.1
  have hts := hC.2.2.2.2.1
  have hown := hC.2.2.2.1
  have hap := va_apart (own := own) hts hin ty0 hty hnm hK hc
  obtain ⟨r, h1, cell, q1, q2, q3, q4⟩ := hP _ _ he2
  have hr : r = (Cn, T, N0) := Option.some.inj (h1.symm.trans hc)
  subst hr
  obtain ⟨hS2, hfc, kC, hkC, hkind⟩ := hK.1 ci _ hc
  obtain ⟨cf, kf, fi, f, hi, hsl⟩ := hS2 k hk
  have hlay := hts _ (hin _ (u_in_lay hk))
  unfold u_lay at hlay
  rw [if_pos hfin] at hlay
  have hst := (u_facts hfc hkC (u_lays hts hin hk) hi).1
  have hcf : m.cls = cf := by
    obtain ⟨_, _, c', _, _, _, -, -, hf', -, -, -, hown2, -⟩ := Cond.laysFinal_spec hlay
    have e1 : c' = cf := by have := hi.symm.trans hf'; simp at this; exact this.1.symm
    rw [hdecl] at hown2
    rw [← e1]; exact Option.some.inj (hown.symm.trans hown2)
  have h6 := u_fits (v := .ref x) hfc hkC hkind (Or.inr hlay) hi hd (hn x) (hfit x)
  refine W.putFinK hC.1 hC.2.1 hown (hC.2.2.2.2.1 _ hw) (by rw [← h4]; exact hi) hst hcf hin2 (by rw [q2]; exact h6) q1 q3 (by rw [hsl]; exact k2_hasslot (q4 k hk)) rfl rfl hdg fun H' e1 e2 e3 => ?_
  rw [hsl] at e1 ⊢
  exact kk ls H' _ hl (by rw [← wx_set]; exact hP.set hD he2 ⟨_, hc, t_OB.to (V := updV (vp_V fs) k (.ref x)) ⟨_, e1, q2, q3, t_set q4 hap hk _⟩ (fun j _ => vp_updV_set hlen _ j)⟩ e3) (by rw [← wx_set]; exact hD.set he2) (hS.put e2 e3 (hD.2 _ _ he2)) (e2.trans hz)
theorem N_iast (hC : Cx p s m args c cc own nL G) {a n : Nat} {f : Nat → Int32} {j x : Int32} (i : Nat) (ha : w[i]? = some (a, .inl (G.2.1 0, n, .inl f))) (hin : vp_in j n) (hdg : decode cc pc = .ok (.iastore, 1)) (kk : N p l e R s m args below meth c nL G cells slots Q (pc + 1) L st wx (w.set i (a, .inl (G.2.1 0, n, .inl (upd f j.toNatClampNeg x)))) sz) : N p l e R s m args below meth c nL G cells slots Q pc L (.int x :: .int j :: .ref a :: st) wx w sz := by
  intro ls H locs hl hP hD hS hz
  have ha2 : (wx ++ w)[wx.length + i]? = some (a, .inl (G.2.1 0, n, .inl f)) := (wx_get wx w i).trans ha
  have hlt : j.toNatClampNeg < n := Nat.not_le.mp fun q => hin (Or.inr q)
  have ht : (gTy G)[0]? = some (G.2.1 0, .int) := rfl
  refine W.iast hC.1 hC.2.1 (hP _ _ ha2) ((hC.2.2.2.2.2.1.2 0 _ ht).1 n (fun j => .int (f j))) (fun q => by cases q) (by show ¬ (j < 0 ∨ (arrV _ _ _).slots.size ≤ _); rw [arrV_size]; exact hin) rfl rfl hdg fun H1 e z oq => ?_
  have hat : va_at G.1 vwCl (a, .inl (G.2.1 0, n, .inl (upd f j.toNatClampNeg x))) H1 := by
    show H1[a]? = some (vp_cell _ _)
    rw [e]
    rw [vp_cell_i, vp_cell_i, arrV_store]
    congr 2
    funext q
    by_cases hq : q = j.toNatClampNeg
    · subst hq
      simp [updV, upd]
    · simp [updV, upd, hq]
  exact kk ls H1 _ hl (by rw [← wx_set]; exact hP.set hD ha2 hat oq) (by rw [← wx_set]; exact hD.set ha2) (hS.put z oq (hD.2 _ _ ha2)) (z.trans hz)
theorem N_alen (hC : Cx p s m args c cc own nL G) {a n : Nat} {f : Nat → Int32} (i : Nat) (ha : w[i]? = some (a, .inl (G.2.1 0, n, .inl f))) (hdg : decode cc pc = .ok (.arraylength, 1)) (kk : N p l e R s m args below meth c nL G cells slots Q (pc + 1) L (.int (Int32.ofNat n) :: st) wx w sz) : N p l e R s m args below meth c nL G cells slots Q pc L (.ref a :: st) wx w sz := by
  intro ls H locs hl hP hD hS hz
  have ha2 : (wx ++ w)[wx.length + i]? = some (a, .inl (G.2.1 0, n, .inl f)) := (wx_get wx w i).trans ha
  exact va_alen hC.1 hC.2.1 hC.2.2.2.2.2.1 hP (wx.length + i) 0 ha2 rfl rfl hdg (kk ls H locs hl hP hD hS hz)
/-- an element of the row of desks -/
theorem N_dast (hC : Cx p s m args c cc own nL G) {a v ci : Nat} {vs : List Value} {f : Nat → Option Nat} {j : Int32} (i iv : Nat) {T : u_T} {N0 : Nat} (ha : w[i]? = some (a, .inl (G.2.1 3, 4, .inr (.inr (.inr (.inr f)))))) (hv : w[iv]? = some (v, .inr (ci, vs))) (hc : vwCl[ci]? = some ("SectionDesk$Desk", T, N0)) (hin : vp_in j 4) (hdg : decode cc pc = .ok (.aastore, 1)) (kk : N p l e R s m args below meth c nL G cells slots Q (pc + 1) L st wx (w.set i (a, .inl (G.2.1 3, 4, .inr (.inr (.inr (.inr (va_up f j.toNatClampNeg (some v)))))))) sz) : N p l e R s m args below meth c nL G cells slots Q pc L (.ref v :: .int j :: .ref a :: st) wx w sz := by
  intro ls H locs hl hP hD hS hz
  have ha2 : (wx ++ w)[wx.length + i]? = _ := (wx_get wx w i).trans ha
  have hv2 : (wx ++ w)[wx.length + iv]? = _ := (wx_get wx w iv).trans hv
  have hK := hC.2.2.2.2.2.1
  have ht : (gTy G)[3]? = some (G.2.1 3, .object "SectionDesk$Desk") := rfl
  have hlt : j.toNatClampNeg < 4 := Nat.not_le.mp fun q => hin (Or.inr q)
  have h0 : ¬ j < 0 := fun q => hin (Or.inl q)
  obtain ⟨r', hr', cellV, g1, g2, g3, -⟩ := hP _ _ hv2
  have hcls := (hK.1 ci _ hc).2
  obtain ⟨kA, comp, k1, k2, k3, -⟩ := (hK.2 3 _ ht).2
  have hcomp : comp = G.1.1 ci := Option.some.inj (k3.symm.trans hcls.1)
  subst hcomp
  obtain ⟨kC, hkC, -⟩ := hcls.2
  refine W.aast hC.1 hC.2.1 (hP _ _ ha2) (fun q h => by cases h) (fun h => by cases h) k1 k2 rfl hkC ⟨h0, by show _ < (arrV _ _ _).slots.size; rw [arrV_size]; exact hlt⟩ g1 (fun q h => by rw [g3] at h; cases h) (by rw [g2]; exact hkC) (by rw [g2]; exact va_assign hcls) rfl rfl hdg fun H1 e z oq => ?_
  have hat : va_at G.1 vwCl (a, .inl (G.2.1 3, 4, .inr (.inr (.inr (.inr (va_up f j.toNatClampNeg (some v))))))) H1 := by
    show H1[a]? = some (vp_cell _ _)
    rw [e]
    rw [vp_cell_q, vp_cell_q, arrV_store]
    congr 2
    funext q
    by_cases hq : q = j.toNatClampNeg
    · subst hq
      simp [updV, va_up, va_rf]
    · simp [updV, va_up, hq]
  exact kk ls H1 _ hl (by rw [← wx_set]; exact hP.set hD ha2 hat oq) (by rw [← wx_set]; exact hD.set ha2) (hS.put z oq (hD.2 _ _ ha2)) (z.trans hz)
theorem N_anew (hC : Cx p s m args c cc own nL G) (hA : NA G s) {index : Nat} (hcl : Cond.classLink own index "SectionDesk$Desk" ∈ GL) (hcells : cells + 1 ≤ R.cells) (hslots : slots + 4 ≤ R.slots) (hd : decode cc pc = .ok (.anewarray index, 3)) (a : Nat) (hz : sz = a)
    (kk : N p l e R s m args below meth c nL G (cells + 1) (slots + 4) Q (pc + 3) L (.ref a :: st) wx (w ++ [(a, .inl (G.2.1 3, 4, .inr (.inr (.inr (.inr (fun _ => none))))))]) (a + 1)) : N p l e R s m args below meth c nL G cells slots Q pc L (.int 4 :: st) wx w sz := by
  subst hz
  intro ls H locs hl hP hD hS hz
  subst hz
  refine W.anew hC.1 hC.2.1 hC.2.2.2.1 (hC.2.2.2.2.1 _ hcl) (va_AO.use hA.2) rfl hd rfl (by decide) (by decide) hcells hslots fun cA kA comp f1 f2 f3 f4 => ?_
  have ht : (gTy G)[3]? = some (G.2.1 3, .object "SectionDesk$Desk") := rfl
  obtain ⟨kA', comp', -, -, -, j4⟩ := (hC.2.2.2.2.2.1.2 3 _ ht).2
  have hcc : G.2.1 3 = cA := Option.some.inj (j4.symm.trans f1)
  subst hcc
  generalize hH1 : H.push ({ cls := G.2.1 3, slots := Array.replicate (4 : Int32).toNatClampNeg .null, vm := .none } : Cell) = H1
  have z1 : H1.size = H.size + 1 := by rw [← hH1, Array.size_push]
  have e1 : H1[H.size]? = some (arrV (G.2.1 3) (4 : Int32).toNatClampNeg (fun _ => .null)) := by rw [← hH1, Array.getElem?_push_size, ← arrV_new]
  have o1 : ∀ q : Nat, q < H.size → H1[q]? = H[q]? := fun q hq => by rw [← hH1, Array.getElem?_push, if_neg (Nat.ne_of_lt hq)]
  have hk : ∀ (k : Nat) (x : Nat × va_E), (wx ++ w)[k]? = some x → H1[x.1]? = H[x.1]? := fun k x hx => o1 x.1 ((hP k x hx).lt)
  refine kk _ H1 locs hl ?_ ?_ ⟨Nat.le_trans hS.1 (by omega), fun x h1 h2 => (o1 x (Nat.lt_of_lt_of_le h1 hS.1)).trans (hS.2.1 x h1 h2), hS.2.2⟩ z1
  · rw [← List.append_assoc]
    refine (hP.kept hk).app (fun k x hx => ?_)
    have hz : k < 1 := (List.getElem?_eq_some_iff.mp hx).1
    rw [show k = 0 by omega] at hx
    cases hx
    show H1[H.size]? = some (vp_cell _ _)
    rw [vp_cell_q]
    exact e1
  · rw [← List.append_assoc]
    exact hD.push hP rfl (hA.1 _ hS.1)
/-- behind a call -/
theorem N_call {w1 : va_W} {sz1 mc ms : Nat} {st0 : List Value} {a : Array Value} (hr : ∀ (ls : Array Slot) (H : Heap) (locs : List Loc), lv_has ls nL L → va_P G.1 vwCl (wx ++ w) H → va_D (gA G) (wx ++ w) → va_S (gA G) s.heap H locs → H.size = sz → va_Run p l e R s m args below meth c H locs cells slots mc ms (F0 m pc ls st0) st (nQ G (wx ++ w1) sz1 a) (gA G)) (kk : N p l e R s m args below meth c nL G (cells + mc) (slots + ms) Q (pc + 3) L st wx w1 sz1) : N p l e R s m args below meth c nL G cells slots Q pc L st0 wx w sz := by
  intro ls H locs hl hP hD hS hz T hT X
  obtain ⟨v, st₀, t, T', Lc, h0, X', hL, e1, e2, ⟨hv, ⟨hb1, hb2, hb3⟩, hz2, hk⟩, hgo⟩ := hr ls H locs hl hP hD hS hz T hT X
  have hv' : v = none := by cases hv; rfl
  subst hv'
  rw [h0] at hz2 hk
  obtain ⟨t2, a1, b1⟩ := kk ls T'.heap (locs ++ Lc) hl (by rw [e1]; exact hb1) hb2
    ⟨Nat.le_trans hS.1 (by rw [e1]; exact hz2), fun q h1 h2 => by rw [e1, hk q (Nat.lt_of_lt_of_le h1 hS.1) h2]; exact hS.2.1 q h1 h2, fun q hq => by
      rcases List.mem_append.mp hq with h | h
      · exact hS.2.2 q h
      · exact hL q h⟩ (by rw [e1]; exact hb3) T' rfl X'
  exact ⟨t2, hgo t2 a1, b1⟩
theorem pre_N (hC : Cx p s m args c cc own nL G) (hA : NA G s) {H : Heap} {locs : List Loc} {av : List Value} (hP : va_P G.1 vwCl w H) (hD : va_D (gA G) w) (hS : va_S (gA G) s.heap H locs) (hz : H.size = sz) : PreS s H (nP G av w sz) av :=
  ⟨nP_blind G av w sz, fun U hU hW => ⟨rfl, by rw [hU]; exact hP, hD, va_K.moved hW.alike hC.2.2.2.2.2.1, nw_warm hW hC.2.2.2.2.2.2.1, by rw [hU]; exact hz, fun q hq => hA.1 q (Nat.le_trans hS.1 (by rw [hz]; exact hq)), va_AO.moved hW.alike hA.2⟩⟩
theorem N_init (hC : Cx p s m args c cc own nL G) (hA : NA G s) {y : MethodName} {bytes : ByteArray} {maxL n0 mc ms index a sz1 : Nat} (wa : va_W) {wb wb1 : va_W} (hw : w = wa ++ wb) (hM : Met l y (.code y bytes maxL none :: GL) (rmn n0 mc ms) (nP G [.ref a] ((wx ++ wa) ++ wb) sz) (nQ G ((wx ++ wa) ++ wb1) sz1) mc ms (gA G)) (hwd : cwd y bytes maxL none 0) (hin : y.name = "<init>") (hi : Cond.instanceMethod y ∈ GL) {host : String} (hl : Cond.methodLink own index y ∈ GL ∨ Cond.methodLinkNest own index y host ∈ NW) (hR : n0 + 1 ≤ R.frames ∧ 8 + (maxL + 11) + 60 * n0 ≤ R.locals) (hst : (st.map fun v => v.category).sum ≤ 8) (hd : decode cc pc = .ok (.invokespecial index, 3)) (hf : cells + mc ≤ R.cells ∧ slots + ms ≤ R.slots) (kk : N p l e R s m args below meth c nL G (cells + mc) (slots + ms) Q (pc + 3) L st wx (wa ++ wb1) sz1) : N p l e R s m args below meth c nL G cells slots Q pc L (.ref a :: st) wx w sz := by
  subst hw
  rcases hl with hl | hl
  · refine N_call (a := (Value.ref a :: []).toArray) (fun ls H locs hl9 hP hD hS hz => ?_) kk
    have h := va_runI (e := e) (mc := mc) (ms := ms) (rest := st) (locs := locs) (cells := cells) (slots := slots) (As := []) (g := F0 m pc ls (.ref a :: st)) (meth := meth) (below := below) ⟨hC.1, hC.2.1, hC.2.2.1, hC.2.2.2.1, hC.2.2.2.2.1⟩ hM ⟨callB_of 0 hC.2.2.2.2.1 (good_code hwd) rfl rfl rfl (hC.2.2.2.2.1 _ hwd.1) (hC.2.2.2.2.1 _ hl) hwd.2.2 hR, hin, hC.2.2.2.2.1 _ hi⟩ (pre_N hC hA (by rw [List.append_assoc]; exact hP) (by rw [List.append_assoc]; exact hD) hS hz) rfl rfl hl9.1 rfl (lv_room hst) hd hf
    rw [List.append_assoc] at h
    exact h
  · refine N_call (a := (Value.ref a :: []).toArray) (fun ls H locs hl9 hP hD hS hz => ?_) kk
    have h := va_runIN (e := e) (mc := mc) (ms := ms) (rest := st) (locs := locs) (cells := cells) (slots := slots) (As := []) (g := F0 m pc ls (.ref a :: st)) (meth := meth) (below := below) ⟨hC.1, hC.2.1, hC.2.2.1, hC.2.2.2.1, hC.2.2.2.2.1⟩ hM ⟨va_cnB 0 hC.2.2.2.2.1 (good_code hwd) rfl rfl rfl (hC.2.2.2.2.2.2.1 _ hl) (hC.2.2.2.2.1 _ hwd.1) hwd.2.2 hR, hin, hC.2.2.2.2.1 _ hi⟩ (pre_N hC hA (by rw [List.append_assoc]; exact hP) (by rw [List.append_assoc]; exact hD) hS hz) rfl rfl hl9.1 rfl (lv_room hst) hd hf
    rw [List.append_assoc] at h
    exact h
theorem N_stat (hC : Cx p s m args c cc own nL G) (hA : NA G s) {y : MethodName} {bytes : ByteArray} {maxL n0 n index sz1 : Nat} (As : List Value) {w1 : va_W} (hM : Met l y (.code y bytes maxL none :: GL) (rmn n0 0 0) (nP G As (wx ++ w) sz) (nQ G (wx ++ w1) sz1) 0 0 (gA G)) (hwd : cwd y bytes maxL none n) (hs : Cond.static y ∈ GL) (hl : Cond.methodLink own index y ∈ GL) (hR : n0 + 1 ≤ R.frames ∧ 8 + (maxL + 11) + 60 * n0 ≤ R.locals) (hn : As.length = n) (hst : (st.map fun v => v.category).sum ≤ 8) (hd : decode cc pc = .ok (.invokestatic index, 3)) (hf : cells ≤ R.cells ∧ slots ≤ R.slots) {st0 : List Value} (hst0 : st0 = As.reverse ++ st) (kk : N p l e R s m args below meth c nL G cells slots Q (pc + 3) L st wx w1 sz1) : N p l e R s m args below meth c nL G cells slots Q pc L st0 wx w sz :=
by
  refine N_call (mc := 0) (ms := 0) (a := As.toArray) (fun ls H locs hl9 hP hD hS hz => ?_) kk
  have h := va_runS (e := e) (mc := 0) (ms := 0) (rest := st) (locs := locs) (cells := cells) (slots := slots) (As := As) (g := F0 m pc ls st0) (meth := meth) (below := below) ⟨hC.1, hC.2.1, hC.2.2.1, hC.2.2.2.1, hC.2.2.2.2.1⟩ hM ⟨callB_of n hC.2.2.2.2.1 (good_code hwd) rfl rfl rfl (hC.2.2.2.2.1 _ hwd.1) (hC.2.2.2.2.1 _ hl) hwd.2.2 hR, hC.2.2.2.2.1 _ hs⟩ (pre_N hC hA hP hD hS hz) rfl hn hl9.1 hst0 (lv_room hst) hd hf
  exact h
theorem N_cell {a : Nat} {cA : ClassId} {x x' : vp_A} (i : Nat) (he : w[i]? = some (a, .inl (cA, x))) (hx : vp_cell cA x' = vp_cell cA x) (kk : N p l e R s m args below meth c nL G cells slots Q pc L st wx (w.set i (a, .inl (cA, x'))) sz) : N p l e R s m args below meth c nL G cells slots Q pc L st wx w sz := by
  intro ls H locs hl hP hD hS hz
  have he2 : (wx ++ w)[wx.length + i]? = _ := (wx_get wx w i).trans he
  have hat : va_at G.1 vwCl (a, .inl (cA, x')) H := by
    have h := hP _ _ he2
    show H[a]? = some (vp_cell cA x')
    rw [hx]
    exact h
  exact kk ls H locs hl (by rw [← wx_set]; exact hP.set hD he2 hat (fun _ _ => rfl)) (by rw [← wx_set]; exact hD.set he2) hS hz
theorem N_V {M : Mem} (hw : ∀ H : Heap, va_P G.1 vwCl w H → va_P G.1 vwCl (WS G M) H) (kk : V p l e R s m args below meth c nL G cells slots Q pc L st M) : N p l e R s m args below meth c nL G cells slots Q pc L st [] w sz :=
  fun ls H locs hl hP hD hS hz => kk ls H locs hl (hw H hP) hS
theorem N_ret (hC : Cx p s m args c cc own nL G) (hr : meth.sig.returnType = none) (hlk : meth.locks = false) (hd : decode cc pc = .ok (.return_, 1)) {mc ms : Nat} (h1 : cells ≤ mc) (h2 : slots ≤ ms) : N p l e R s m args below meth c nL G cells slots (MQ below (nQ G (wx ++ w) sz) args s mc ms (gA G)) pc L [] wx w sz :=
  fun ls H locs hl hP hD hS hz => W.widen h1 h2 (W.vret hC.1 hC.2.1 hr (fun t ht hW => ⟨rfl, ⟨by rw [ht]; exact hP, hD, by rw [ht]; exact hz⟩, hS.F ht⟩) hS.2.2 hd hlk)
end VN
/-- where the objects come to lie: one behind the other, in the order in which the run makes them -/
def pos : Nat → Nat → Nat
  | 0, j => 1 + j
  | 1, j => 19 + j
  | 2, j => 39 + j
  | 3, j => 57 + j
  | 4, j => 75 + j
  | 5, j => 93 + j
  | 6, 0 => 0
  | 6, 1 => 37
  | 6, 2 => 38
  | 6, j + 3 => 111 + j
  | 7, j => 117 + j
  | _, j => 130 + j
def gZ (G : Geo) : Prop := ∀ g j, adr G g j = G.2.2.2 + pos g j
theorem gz_s {G : Geo} (hZ : gZ G) {g : Nat} (hg : g < 6) (j : Nat) : adr G g j + 1 = adr G g (j + 1) := by
  rw [hZ, hZ]
  match g, hg with
  | 0, _ => rfl
  | 1, _ => rfl
  | 2, _ => rfl
  | 3, _ => rfl
  | 4, _ => rfl
  | 5, _ => rfl
theorem gz_n {G : Geo} (hZ : gZ G) {a b c d : Nat} (h : pos a b + 1 = pos c d) : adr G a b + 1 = adr G c d := by
  rw [hZ, hZ, Nat.add_assoc, h]
def nhost : Cond → Bool | .fieldLinkNest _ _ _ _ _ h => h != "" | _ => true
theorem NW_host : NW.all nhost = true := by decide +kernel
theorem nw_no {own : String} {index : Nat} : ∀ (ref name desc : String), Cond.fieldLinkNest own index ref name desc "" ∉ NW := fun ref name desc h => by
  have h2 := List.all_eq_true.mp NW_host _ h
  simp [nhost] at h2
def nfill (n : Nat) (v : Int32) (f : Nat → Int32) : Nat → Int32 := fun k => if k < n then v else f k
