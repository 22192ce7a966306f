/-! ===== methods that throw, and their callers: the same walk over the whole memory ===== -/
def xcls (k : Nat) : String := if k = 1 then "java/lang/IndexOutOfBoundsException" else if k = 2 then "java/lang/IllegalArgumentException" else "java/lang/IllegalStateException"
def fk (x : Int32) : Nat := if x = 1 then 1 else if x = 2 then 2 else if x = 3 then 3 else 0
abbrev rmx (n : Nat) : Room := { frames := n, cells := 1, slots := 6, locals := 60 * n }
def XW : List Cond := [.castable "java/lang/IndexOutOfBoundsException" "java/lang/IndexOutOfBoundsException", .castable "java/lang/IllegalArgumentException" "java/lang/IllegalArgumentException", .castable "java/lang/IllegalStateException" "java/lang/IllegalStateException", (Cond.declares ({ cls := "java/lang/RuntimeException", name := "<init>", desc := "()V" } : MethodName)), (Cond.declares ({ cls := "java/lang/RuntimeException", name := "<init>", desc := "(Ljava/lang/String;)V" } : MethodName)), (Cond.declares ({ cls := "java/lang/Exception", name := "<init>", desc := "()V" } : MethodName)), (Cond.declares ({ cls := "java/lang/Exception", name := "<init>", desc := "(Ljava/lang/String;)V" } : MethodName)), (Cond.declares ({ cls := "java/lang/Throwable", name := "<init>", desc := "()V" } : MethodName)), (Cond.declares ({ cls := "java/lang/Throwable", name := "<init>", desc := "(Ljava/lang/String;)V" } : MethodName))]
def XN : List (String × String) := [("java/lang/IndexOutOfBoundsException", "java/lang/IllegalArgumentException"), ("java/lang/IndexOutOfBoundsException", "java/lang/IllegalStateException"), ("java/lang/IllegalArgumentException", "java/lang/IndexOutOfBoundsException"), ("java/lang/IllegalArgumentException", "java/lang/IllegalStateException"), ("java/lang/IllegalStateException", "java/lang/IndexOutOfBoundsException"), ("java/lang/IllegalStateException", "java/lang/IllegalArgumentException")]
def isCast : Cond → Bool | .castable .. => true | .declares .. => true | _ => false
theorem XW_cast : XW.all isCast = true := by decide +kernel
theorem cast_warm {w : Cond} (h : isCast w = true) {s U : State} (hW : s.WarmedH U.vm) (hz : va_Nw w s) : va_Nw w U := by
  cases w <;> first | exact va_Nw.warmC hW hz | exact va_Nw.warmD hW hz | cases h
theorem cast_tabs {w : Cond} (h : isCast w = true) : w.onTables = true := by
  cases w <;> first | rfl | cases h
def XF (G : Geo) (U : State) : Prop := vx_Zq Bundle.tN "UNASSIGNED_STACK" Bundle.steD (gA G) U U.heap ∧ vx_Zq Bundle.tN "SUPPRESSED_SENTINEL" Bundle.listD (gA G) U U.heap ∧ (∃ a, vk_R "SectionDesk" 320 "there is no such thing" a U) ∧ (∃ a, vk_R "SectionDesk" 327 "this value is not allowed" a U) ∧ (∃ a, vk_R "SectionDesk" 332 "this is not possible now" a U) ∧ (∀ w ∈ XW, va_Nw w U) ∧ ∀ q ∈ XN, va_Nc q.1 q.2 U
theorem XF_go {G : Geo} {s U : State} (hW : s.WarmedH U.vm) (hH : ∀ q : Nat, q < s.heap.size → ¬ gA G q → U.heap[q]? = s.heap[q]?) (h : XF G s) : XF G U := by
  obtain ⟨h1, h2, ⟨a3, h3⟩, ⟨a4, h4⟩, ⟨a5, h5⟩, h6, h7⟩ := h
  exact ⟨vx_Zq.kept (vx_Zq.moved hW.alike h1) hH, vx_Zq.kept (vx_Zq.moved hW.alike h2) hH, ⟨a3, vk_R.warm hW h3⟩, ⟨a4, vk_R.warm hW h4⟩, ⟨a5, vk_R.warm hW h5⟩, fun w hw => cast_warm (List.all_eq_true.mp XW_cast w hw) hW (h6 w hw), fun q hq => va_Nc.moved hW.alike (h7 q hq)⟩
theorem XF_calling {G : Geo} {U : State} (g : JFrame) (mk : MethodId) (a : Array Value) (h : XF G U) : XF G (U.calling g mk a) := by
  obtain ⟨h1, h2, ⟨a3, h3⟩, ⟨a4, h4⟩, ⟨a5, h5⟩, h6, h7⟩ := h
  have hA : U.vm.Alike (U.calling g mk a).vm := Vm.Alike.refl U.vm
  exact ⟨vx_Zq.moved (U := U.calling g mk a) hA h1, vx_Zq.moved (U := U.calling g mk a) hA h2, ⟨a3, vk_R.same (u := U) (U := U.calling g mk a) rfl h3⟩, ⟨a4, vk_R.same (u := U) (U := U.calling g mk a) rfl h4⟩, ⟨a5, vk_R.same (u := U) (U := U.calling g mk a) rfl h5⟩, fun w hw => va_Nw.same (u := U) (U := U.calling g mk a) (cast_tabs (List.all_eq_true.mp XW_cast w hw)) rfl (h6 w hw), fun q hq => va_Nc.moved (U := U.calling g mk a) hA (h7 q hq)⟩
abbrev gPx (G : Geo) (av : List Value) (M : Mem) : Array Value → State → Prop := fun v U => v = av.toArray ∧ gS G M U ∧ XF G U
def gQx (G : Geo) (k : Nat) (rv : Option Value) (M : Mem) : Array Value → State → Outcome → State → Prop := fun _ st oc t => k = 0 ∧ oc = .returned rv ∧ gS G M t ∧ va_F (gA G) st t
def gXx (G : Geo) (k : Nat) (M : Mem) : String → State → State → Prop := fun E st t => 0 < k ∧ E = xcls k ∧ va_P G.1 vwCl (WS G M) t.heap ∧ va_F (gA G) st t
theorem gPx_blind (G : Geo) (av : List Value) (M : Mem) : FrameBlind (gPx G av M) := fun a U g mk h => ⟨h.1, ⟨h.2.1.1, va_K.moved (u := U) (U := U.calling g mk a) (Vm.Alike.refl U.vm) h.2.1.2.1, nw_same (s := U) (U := U.calling g mk a) rfl h.2.1.2.2⟩, XF_calling g mk a h.2.2⟩
/-- the contract of a method that may throw, out of the walk V of its body -/
theorem XMet_of {l : Launch} {y : MethodName} {cc : ByteArray} {maxL a : Nat} {ret : Option FieldType} {own : String} {G : Geo} (hG : gD G) {av : List Value} {M M' : Mem} {k : Nat} {rv : Option Value} {L : List (Nat × Value)} (hy : plainName y.cls = true) (hown : y.cls = own) (hav : (lg_sl av).length ≤ maxL) (hL : lv_args 0 av = L)
    (body : ∀ (p : Program) (e : Env) (s : State) (m : MethodId) (args : Array Value) (below : List Frame) (meth : Method) (c : Code), Cx p s m args c cc own maxL G → XF G s → (∀ x ∈ c.exceptionTable.toList, False) → meth.sig.returnType = ret → meth.locks = false → V p l e (rmx a) s m args below meth c maxL G 0 0 (vx_MQ below (gQx G k rv M') (gXx G k M') args s 1 6 (gA G)) 0 L [] M) :
    vx_Met l y (.code y cc maxL ret :: GL) (rmx a) (gPx G av M) (gQx G k rv M') (gXx G k M') 1 6 (gA G) := by
  refine vx_ofW (cc := cc) (maxL := maxL) (ret := ret) hy rfl ?_
  intro p e s m args below meth c s₁ B hml hnt hv
  obtain ⟨rfl, ⟨hP, hK, hN⟩, hX⟩ := hv
  have hts := atoms_spec (ws := .code y cc maxL ret :: GL) B.pre
  have hfc : s.vm.findClass own = some m.cls := by rw [← hown]; exact findClass_of_methodNamed B.named
  have hS : va_S (gA G) s.heap s.heap [] := va_S.rf
  have hl := lv_entry av (n := maxL) hav
  rw [hL] at hl
  rw [lg_entry_eq]
  exact body p e s m av.toArray below meth c ⟨B.exec, B.bytes, hml, hfc, fun w hw => hts w (List.mem_cons_of_mem _ hw), hK, hN, hG⟩ hX hnt B.returns B.notSynchronized _ _ _ hl hP hS
/-- and of one that catches what it calls -/
theorem WMet_of {l : Launch} {y : MethodName} {cc : ByteArray} {maxL a : Nat} {ret : Option FieldType} {hh : List (Nat × Nat × Nat × Nat)} {own : String} {G : Geo} (hG : gD G) {av : List Value} {M M' : Mem} {rv : Option Value} {L : List (Nat × Value)} (hy : plainName y.cls = true) (hown : y.cls = own) (hav : (lg_sl av).length ≤ maxL) (hL : lv_args 0 av = L)
    (body : ∀ (p : Program) (e : Env) (s : State) (m : MethodId) (args : Array Value) (below : List Frame) (meth : Method) (c : Code), Cx p s m args c cc own maxL G → XF G s → c.exceptionTable.toList = tableOf hh → meth.sig.returnType = ret → meth.locks = false → V p l e (rmx a) s m args below meth c maxL G 0 0 (MQ below (gQ G rv M') args s 1 6 (gA G)) 0 L [] M) :
    Met l y (.codeWith y cc maxL ret hh :: GL) (rmx a) (gPx G av M) (gQ G rv M') 1 6 (gA G) := by
  refine MetFree.of_bodyS (code := cc) (maxLocals := maxL) (ret := ret) hy ?_ ?_
  · intro args s m h hn
    obtain ⟨m9, meth, c, hn9, h1, h2, h3, h4, -, h5, h6, -⟩ := Cond.codeWith_spec (atoms_spec (ws := .codeWith y cc maxL ret hh :: GL) h _ List.mem_cons_self)
    cases hn.symm.trans hn9
    exact ⟨meth, c, h1, h2, h3, h4, h5, h6⟩
  · intro p e s m args below meth c s₁ B hml hv _
    have hh0 : s₁.heap = s.heap := by rw [B.state]; rfl
    obtain ⟨rfl, ⟨hP, hK, hN⟩, hX⟩ := hv
    have hts := atoms_spec (ws := .codeWith y cc maxL ret hh :: GL) B.pre
    have htab := vx_table (x := y) B (hts _ List.mem_cons_self)
    have hfc : s.vm.findClass own = some m.cls := by rw [← hown]; exact findClass_of_methodNamed B.named
    have hS : va_S (gA G) s.heap s.heap [] := va_S.rf
    have hl := lv_entry av (n := maxL) hav
    rw [hL] at hl
    have K := body p e s m av.toArray below meth c ⟨B.exec, B.bytes, hml, hfc, fun w hw => hts w (List.mem_cons_of_mem _ hw), hK, hN, hG⟩ hX htab B.returns B.notSynchronized _ _ _ hl hP hS
    rw [← lg_entry_eq] at K
    obtain ⟨t, a1, o, b1, b2, b3⟩ := K s₁ hh0 (Stand.of_body B)
    exact ⟨t, o, a1, b1, b2, ⟨b3.1, b3.2⟩⟩
section VX3
variable {p : Program} {l : Launch} {e : Env} {R : Room} {s : State} {m : MethodId} {args : Array Value} {below : List Frame} {meth : Method} {c : Code} {cells slots : Nat} {Q : State → Prop} {cc : ByteArray} {own : String} {nL : Nat} {G : Geo} {pc : Nat} {L L' : List (Nat × Value)} {st : List Value} {M : Mem}
theorem V_xiret (hC : Cx p s m args c cc own nL G) (hr : meth.sig.returnType = some .int) (hlk : meth.locks = false) (h1 : cells ≤ 1) (h2 : slots ≤ 6) {v : Int32} (hd : decode cc pc = .ok (.ireturn, 1)) : V p l e R s m args below meth c nL G cells slots (vx_MQ below (gQx G 0 (some (.int v)) M) (gXx G 0 M) args s 1 6 (gA G)) pc L [.int v] M :=
  fun ls H locs hl hP hS => W.widen h1 h2 (vx_ret (W.iret hC.1 hC.2.1 hr (fun t ht hW => ⟨rfl, rfl, ⟨by rw [ht]; exact hP, va_K.moved hW.alike hC.2.2.2.2.2.1, nw_warm hW hC.2.2.2.2.2.2.1⟩, hS.F ht⟩) hS.2.2 hd hlk))
theorem V_xvret (hC : Cx p s m args c cc own nL G) (hr : meth.sig.returnType = none) (hlk : meth.locks = false) (h1 : cells ≤ 1) (h2 : slots ≤ 6) (hd : decode cc pc = .ok (.return_, 1)) : V p l e R s m args below meth c nL G cells slots (vx_MQ below (gQx G 0 none M) (gXx G 0 M) args s 1 6 (gA G)) pc L [] M :=
  fun ls H locs hl hP hS => W.widen h1 h2 (vx_ret (W.vret hC.1 hC.2.1 hr (fun t ht hW => ⟨rfl, rfl, ⟨by rw [ht]; exact hP, va_K.moved hW.alike hC.2.2.2.2.2.1, nw_warm hW hC.2.2.2.2.2.2.1⟩, hS.F ht⟩) hS.2.2 hd hlk))
/-- the law's own methods end in room of their own -/
theorem V_wiret (hC : Cx p s m args c cc own nL G) (hr : meth.sig.returnType = some .int) (hlk : meth.locks = false) (h1 : cells ≤ 1) (h2 : slots ≤ 6) {v : Int32} (hd : decode cc pc = .ok (.ireturn, 1)) : V p l e R s m args below meth c nL G cells slots (MQ below (gQ G (some (.int v)) M) args s 1 6 (gA G)) pc L [.int v] M :=
  fun ls H locs hl hP hS => W.widen h1 h2 (V_iret hC hr hlk hd ls H locs hl hP hS)
def xnames : List String := ["java/lang/RuntimeException", "java/lang/Exception"]
theorem xn_fit : ∀ n ∈ xnames, Bundle.fit n = true := by decide +kernel
/-- throw new E("text") with the text's entry wide -/
theorem V_xthrow (hC : Cx p s m args c cc own nL G) (hX : XF G s) (hlt : l.stackTraces = false) (hnt : ∀ x ∈ c.exceptionTable.toList, False) (hlk : meth.locks = false) {k : Nat} {ik is ic : Nat} {text : String} (hk : 0 < k) (hfit : Bundle.fit (xcls k) = true)
    (w1 : Cond.classLink own ik (xcls k) ∈ GL) (w2 : Cond.initialized (xcls k) ∈ GL) (hstr : ∃ a, vk_R own is text a s) (hat : ∀ w ∈ (vx_atS own ic (xcls k) xnames).filter goodWord, w ∈ GL) (hat2 : ∀ w ∈ (vx_atS own ic (xcls k) xnames).filter (fun w => !goodWord w), w ∈ XW) (hgood : ∀ w ∈ Cond.classLink own ik (xcls k) :: Cond.initialized (xcls k) :: vx_atS own ic (xcls k) xnames, vx_ot w = true)
    (d0 : decode cc pc = .ok (.new ik, 3)) (d3 : decode cc (pc + 3) = .ok (.dup, 1)) (d4 : decode cc (pc + 4) = .ok (.ldc_w is, 3)) (d7 : decode cc (pc + 7) = .ok (.invokespecial ic, 3)) (d10 : decode cc (pc + 10) = .ok (.athrow, 1))
    (hRf : 5 < R.frames) (hRl : 90 ≤ R.locals) (hRc : 1 ≤ R.cells) (hRs : 6 ≤ R.slots) (hst : (st.map fun v => v.category).sum ≤ 8) {Qc : Array Value → State → Outcome → State → Prop} : V p l e R s m args below meth c nL G 0 0 (vx_MQ below Qc (gXx G k M) args s 1 6 (gA G)) pc L st M := by
  obtain ⟨sa, hstr⟩ := hstr
  intro ls H locs hl hP hS
  refine vx_throwSW (names := xnames) hC.1 hC.2.1 hlt hC.2.2.2.1 hfit xn_fit (hC.2.2.2.2.1 _ w1) (hC.2.2.2.2.1 _ w2) hstr (vx_hat (fun w hw => hC.2.2.2.2.1 _ (hat w hw)) hat2 (fun w hw => va_Nw.use (cast_tabs (List.all_eq_true.mp XW_cast w hw)) (hX.2.2.2.2.2.1 w hw))) hgood hX.1 hX.2.1 hS (hl.1.trans hC.2.2.1.symm) d0 d3 d4 d7 d10 (fun x hx => (hnt x hx).elim) (show 2 + 3 < R.frames from hRf) (show _ + (13 * 3 + 43) ≤ R.locals by omega) (by omega) (by omega) hlk ?_ hS.2.2 (by omega) (by omega)
  intro t hA hz hkp
  refine ⟨hk, rfl, hP.kept (fun i q hq => hkp q.1 (hP i q hq).lt), Nat.le_trans hS.1 hz, fun q h1 h2 => ?_⟩
  rw [hkp q (Nat.lt_of_lt_of_le h1 hS.1)]
  exact hS.2.1 q h1 h2
/-- behind a call that may throw -/
theorem V_xcall {k : Nat} {rv : Option Value} {M' : Mem} {st0 : List Value} {a : Array Value} (hr : ∀ (ls : Array Slot) (H : Heap) (locs : List Loc), lv_has ls nL L → va_P G.1 vwCl (WS G M) H → va_S (gA G) s.heap H locs → vx_Run p l e R s m args below meth c H locs cells slots 1 6 (F0 m pc ls st0) st (gQx G k rv M' a) (gXx G k M') (gA G))
    (kk : k = 0 → V p l e R s m args below meth c nL G (cells + 1) (slots + 6) Q (pc + 3) L (rv.toList ++ st) M')
    (kx : 0 < k → ∀ (ls : Array Slot) (H : Heap) (locs : List Loc) (ce : Cell) (q9 : Addr), lv_has ls nL L → va_P G.1 vwCl (WS G M') H → va_S (gA G) s.heap H locs → H[q9]? = some ce → ce.vm = .none → s.vm.findClass (xcls k) = some ce.cls → vx_W p l e R s m args below meth c H locs (cells + 1) (slots + 6) Q (F0 m pc ls st) q9) : V p l e R s m args below meth c nL G cells slots Q pc L st0 M := by
  intro ls H locs hl hP hS T hT X
  rcases hr ls H locs hl hP hS T hT X with ⟨v, st₀, t, T', Lc, h0, X', hL, e1, e2, ⟨hk, hv, hb, hF⟩, hgo⟩ | ⟨q, st₀, t, T', Lc, E, ce, h0, X', hL, e1, e2, ⟨hk, hE, hb, hF⟩, hce, hcv, hcl, hgo⟩
  · have hv' : v = rv := by cases hv; rfl
    subst hv'
    obtain ⟨k1, k2, k3⟩ := vx_keep (A0 := gA G) (A1 := gA G) (free := gA G) h0 e1 hS (fun _ _ z => z) (fun _ z => z) hL hF
    obtain ⟨t2, a1, b1⟩ := kk hk ls T'.heap (locs ++ Lc) hl (by rw [e1]; exact hb.1) k3 T' rfl X'
    exact ⟨t2, hgo t2 a1, b1⟩
  · subst hE
    obtain ⟨k1, k2, k3⟩ := vx_keep (A0 := gA G) (A1 := gA G) (free := gA G) h0 e1 hS (fun _ _ z => z) (fun _ z => z) hL hF
    obtain ⟨t2, a1, b1⟩ := kx hk ls T'.heap (locs ++ Lc) ce q hl (by rw [e1]; exact hb) k3 (by rw [e1]; exact hce) hcv hcl T' rfl X'
    exact ⟨t2, hgo.trans a1, b1⟩
theorem prex_S (hC : Cx p s m args c cc own nL G) (hX : XF G s) {H : Heap} {locs : List Loc} {av : List Value} (hP : va_P G.1 vwCl (WS G M) H) (hS : va_S (gA G) s.heap H locs) : PreS s H (gPx G av M) av :=
  ⟨gPx_blind G av M, fun U hU hW => ⟨rfl, ⟨by rw [hU]; exact hP, va_K.moved hW.alike hC.2.2.2.2.2.1, nw_warm hW hC.2.2.2.2.2.2.1⟩, XF_go hW (by rw [hU]; exact hS.2.1) hX⟩⟩
theorem prex_V (hC : Cx p s m args c cc own nL G) (hX : XF G s) {H : Heap} {locs : List Loc} {g j q ci : Nat} {As : List Value} {Cn : String} {T : u_T} {N : Nat} (hP : va_P G.1 vwCl (WS G M) H) (hS : va_S (gA G) s.heap H locs) (ho : isO G g j q ci) (hci : vwCl[ci]? = some (Cn, T, N)) : PreV s H Cn (adr G g j) (gPx G (.ref (adr G g j) :: As) M) As := by
  refine ⟨gPx_blind G _ M, ?_, (prex_S hC hX hP hS).2⟩
  obtain ⟨fs, h1⟩ := ho.2 (M.1 g j) (M.2 g)
  exact va_recv hC.2.2.2.2.2.1 hP hci ((ws_get ho.1).trans (by rw [h1]))
/-- refuseFor(x), from a method that lets its exception go on -/
theorem V_xref (hC : Cx p s m args c cc own nL G) (hX : XF G s) (hnt : ∀ x ∈ c.exceptionTable.toList, False) (hlk : meth.locks = false) {y : MethodName} {bytes : ByteArray} {maxL a index : Nat} {x : Int32} {k0 : Nat} {rv : Option Value} {Mf : Mem} (hM : vx_Met l y (.code y bytes maxL none :: GL) (rmx a) (gPx G [.int x] M) (gQx G (fk x) none M) (gXx G (fk x) M) 1 6 (gA G)) (hw : cwd y bytes maxL none 1) (hs : Cond.static y ∈ GL) (hl : Cond.methodLink own index y ∈ GL) (hR : a + 1 ≤ R.frames ∧ 8 + (maxL + 11) + 60 * a ≤ R.locals) (hRc : 1 ≤ R.cells ∧ 6 ≤ R.slots) (hst : (st.map fun v => v.category).sum ≤ 8) (hd : decode cc pc = .ok (.invokestatic index, 3))
    (kk : fk x = 0 → V p l e R s m args below meth c nL G 1 6 (vx_MQ below (gQx G k0 rv Mf) (gXx G k0 Mf) args s 1 6 (gA G)) (pc + 3) L st M) (kx : ¬ fk x = 0 → k0 = fk x ∧ Mf = M) :
    V p l e R s m args below meth c nL G 0 0 (vx_MQ below (gQx G k0 rv Mf) (gXx G k0 Mf) args s 1 6 (gA G)) pc L (.int x :: st) M := by
  refine V_xcall (k := fk x) (rv := none) (M' := M) (a := ([.int x] : List Value).toArray) (fun ls H locs hl9 hP hS => vx_runS (As := [.int x]) (rest := st) ⟨hC.1, hC.2.1, hC.2.2.1, hC.2.2.2.1, hC.2.2.2.2.1⟩ hM ⟨callB_of 1 hC.2.2.2.2.1 (good_code hw) rfl rfl rfl (hC.2.2.2.2.1 _ hw.1) (hC.2.2.2.2.1 _ hl) hw.2.2 hR, hC.2.2.2.2.1 _ hs⟩ (prex_S hC hX hP hS) rfl rfl hl9.1 rfl (lv_room hst) hd ⟨by omega, by omega⟩) kk (fun hk ls H locs ce q9 hl9 hP hS h1 h2 h3 => ?_)
  obtain ⟨e1, e2⟩ := kx (by omega)
  subst e1
  subst e2
  exact vx_out (fun x hx => (hnt x hx).elim) hlk h1 h2 h3 (fun t ht hA => ⟨hk, rfl, by rw [ht]; exact hP, hS.F ht⟩) hS.2.2 (Nat.le_refl _) (Nat.le_refl _)
/-- caught by row i of the table -/
theorem V_catch (hC : Cx p s m args c cc own nL G) (hX : XF G s) {k : Nat} {M' : Mem} {hh : List (Nat × Nat × Nat × Nat)} (htab : c.exceptionTable.toList = tableOf hh) {pre suf : List (Nat × Nat × Nat × Nat)} {a b hp ct : Nat} (hsp : hh = pre ++ (a, b, hp, ct) :: suf) (hcov : a ≤ pc ∧ pc < b) (hpre : ∀ z ∈ pre, z.2.2.2 ≠ 0 ∧ ∃ nm : String, Cond.classLink own z.2.2.2 nm ∈ GL ∧ (xcls k, nm) ∈ XN) (hct : ct ≠ 0) (hlink : Cond.classLink own ct (xcls k) ∈ GL) (hcast : Cond.castable (xcls k) (xcls k) ∈ XW) (kk : ∀ q9 : Nat, V p l e R s m args below meth c nL G cells slots Q hp L [.ref q9] M') :
    ∀ (ls : Array Slot) (H : Heap) (locs : List Loc) (ce : Cell) (q9 : Addr), lv_has ls nL L → va_P G.1 vwCl (WS G M') H → va_S (gA G) s.heap H locs → H[q9]? = some ce → ce.vm = .none → s.vm.findClass (xcls k) = some ce.cls → vx_W p l e R s m args below meth c H locs cells slots Q (F0 m pc ls st) q9 := by
  intro ls H locs ce q9 hl hP hS h1 h2 h3
  refine vx_catch hC.2.2.2.1 (tableOf pre) ⟨a, b, hp, ct⟩ (tableOf suf) (by rw [htab, hsp]; simp [tableOf]) (fun z hz => ?_) (by simp [covers, hcov.1, hcov.2]) hct (hC.2.2.2.2.1 _ hlink) (va_Nw.use rfl (hX.2.2.2.2.2.1 _ hcast)) h1 h2 h3 (kk q9 ls H locs hl hP hS)
  obtain ⟨w, hw, rfl⟩ := List.mem_map.mp (show z ∈ pre.map (fun h => (⟨h.1, h.2.1, h.2.2.1, h.2.2.2⟩ : ExceptionTableEntry)) from hz)
  obtain ⟨g1, nm, g2, g3⟩ := hpre w hw
  exact Or.inr ⟨g1, nm, hC.2.2.2.2.1 _ g2, hX.2.2.2.2.2.2 _ g3⟩
/-- a public method called by the law's own, inside its try -/
theorem V_xV (hC : Cx p s m args c cc own nL G) (hX : XF G s) {y : MethodName} {bytes : ByteArray} {maxL n a index : Nat} {ret : Option FieldType} {k : Nat} {v : Value} {M' : Mem} (As : List Value) {g j q ci : Nat} {T : u_T} {N : Nat} (hM : vx_Met l y (.code y bytes maxL ret :: GL) (rmx a) (gPx G (.ref (adr G g j) :: As) M) (gQx G k (some v) M') (gXx G k M') 1 6 (gA G)) (hw : cwd y bytes maxL ret n) (hv : cwv y) (hl : Cond.methodLink own index y ∈ GL) (ho : isO G g j q ci) (hci : vwCl[ci]? = some (y.cls, T, N)) (hR : a + 1 ≤ R.frames ∧ 8 + (maxL + 11) + 60 * a ≤ R.locals) (hn : As.length = n) (hst : (st.map fun v => v.category).sum ≤ 8) (hd : decode cc pc = .ok (.invokevirtual index, 3)) (hf : cells + 1 ≤ R.cells ∧ slots + 6 ≤ R.slots) {st0 : List Value} (hst0 : st0 = As.reverse ++ .ref (adr G g j) :: st)
    (kk : k = 0 → V p l e R s m args below meth c nL G (cells + 1) (slots + 6) Q (pc + 3) L (v :: st) M')
    (kx : 0 < k → ∀ (ls : Array Slot) (H : Heap) (locs : List Loc) (ce : Cell) (q9 : Addr), lv_has ls nL L → va_P G.1 vwCl (WS G M') H → va_S (gA G) s.heap H locs → H[q9]? = some ce → ce.vm = .none → s.vm.findClass (xcls k) = some ce.cls → vx_W p l e R s m args below meth c H locs (cells + 1) (slots + 6) Q (F0 m pc ls st) q9) : V p l e R s m args below meth c nL G cells slots Q pc L st0 M :=
  V_xcall (rv := some v) (fun ls H locs hl9 hP hS => vx_runV (rest := st) ⟨hC.1, hC.2.1, hC.2.2.1, hC.2.2.2.1, hC.2.2.2.2.1⟩ hM ⟨callB_of n hC.2.2.2.2.1 (good_code hw) rfl rfl rfl (hC.2.2.2.2.1 _ hw.1) (hC.2.2.2.2.1 _ hl) hw.2.2 hR, hC.2.2.2.2.1 _ hv.1, hC.2.2.2.2.1 _ hv.2⟩ (prex_V hC hX hP hS ho hci) rfl hn hl9.1 hst0 (lv_room hst) hd hf) kk kx
end VX3
