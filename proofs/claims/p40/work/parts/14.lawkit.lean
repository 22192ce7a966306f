/-! THE CLAIM OUT OF ONE WALK OF THE LAW'S BODY. Your part is whole_start (and what it stands on); all else here is the same for every law, but numbers. -/
def R_law : String := "SectionDeskLaw"
def lw_P (b : Addr) (xs : List Int32) (args : Array Value) (s : State) : Prop := args = #[.ref b] ∧ s.IntsAt b xs ∧ xs.length ≤ 260 ∧ (Jvm.Cond.and given_1 narrow_1).before args s = true
/-- what a walk over the start with the record d0 says of its end, said of the start itself -/
theorem lw_closed {s t : State} {o : Outcome} {d0 : Drawn} {L : List Loc} {k n : Nat} (hd0 : s.drawn.sameBut d0 lw_cs) (hv : ∃ v, o = .returned v) (hW : (s.setDrawn d0).WarmedH t.vm) (hs : (s.setDrawn d0).sameButNew ({ t with vm := s.vm } : State) L k n) : State.butDraws s t lw_cs (fun t1 => Framed s o t1 L k n) := by
  have h2 : t.drawn = d0 := congrArg State.drawn hs.1
  refine ⟨⟨hv, hW, State.sameButNew.setDrawn hs s.drawn⟩, ?_, by decide⟩
  rw [h2]
  exact hd0
def lw_Q (_ : Array Value) (s : State) (o : Outcome) (t : State) : Prop := o = .returned (some (.int 1)) ∧ State.butDraws s t lw_cs (fun t1 => Framed s o t1 [] 721783 6936274)
def lw_Z (below : List Frame) (a : Array Value) (s : State) : State → Prop := fun t => ∃ o, t.status = .running ∧ Ended t below o ∧ lw_Q a s o t
/-- the law's own end, with 1 on the stack, nothing written that was there before, its room as the claim has it; d0: the record of draws at this point (at the entry s.drawn: begin with 'refine W.base ?_' and 'have hd0 := Drawn.sameBut.refl s.drawn lw_cs') -/
theorem lw_ret {p : Program} {l : Launch} {e : Env} {s : State} {m : MethodId} {below : List Frame} {meth : Method} {c : Code} {b : Nat} {d0 : Drawn} (hd0 : s.drawn.sameBut d0 lw_cs) (hx : p.tables.exec = Jvm.exec) (hb : c.code = code) (hr : meth.sig.returnType = ret) (hlocks : meth.locks = false) {pc : Nat} {H : Heap} {ls : Array Slot} (hdg : decode code pc = .ok (.ireturn, 1)) : W p l e room_1 (s.setDrawn d0) m #[Value.ref b] below meth c H [] 721783 6936274 (lw_Z below #[Value.ref b] s) (F0 m pc ls [.int 1]) := by
  intro T hT X
  obtain ⟨fs, hret, hrun, hended, hW, hframe⟩ := X.leave (v := some (.int 1)) (hlocks := hlocks) (fun h => by rw [hr] at h; cases h)
  have hmeth' : T.vm.method? m = some meth := X.method'
  refine ⟨T.setFrames fs, ?_, .returned (some (.int 1)), hrun, hended, rfl, lw_closed hd0 ⟨_, rfl⟩ hW hframe⟩
  jvm_step X.here [X.here.top, hx, hb, hdg, hmeth', hr, ret, narrow_b1]
  (try refine ⟨rfl, ?_⟩); (try refine ⟨rfl, ?_⟩)
  first | (intro acts; rw [hret _ acts rfl rfl rfl]) | rw [hret _ _ rfl rfl rfl]
  exact Steps.refl _
/-- what holds at the law's entry: the machine, the code, the tables' words (any of lw_tbl by 'hts w (by decide +kernel)'), the script of L ints xs at the cell b, what the Statement gives of the start (any of its parts by flat_of_before) -/
def lw_At (p : Program) (s : State) (m : MethodId) (meth : Method) (c : Code) (b L : Nat) (xs : Nat → Int32) : Prop :=
  p.tables.exec = Jvm.exec ∧ c.code = code ∧ meth.sig.returnType = ret ∧ c.maxLocals = 11 ∧ s.vm.findClass R_law = some m.cls ∧ (∀ w ∈ lw_tbl, w.before #[Value.ref b] s = true) ∧ va_X b L xs s s.heap ∧ b < s.heap.size ∧ meth.locks = false ∧ (Jvm.Cond.and given_1 narrow_1).before #[Value.ref b] s = true
/-! ===== the law's own rows over V ===== -/
abbrev rmc (n C : Nat) : Room := { frames := n, cells := C, slots := 6 * C, locals := 60 * n }
theorem bud {u c k X v C : Nat} (hu : u + (k + c + X) ≤ C) (ev : v = k + X) : u + c + v ≤ C := by
  subst ev
  omega
/-- what the law reads of its script -/
def cellv (xs : Nat → Int32) (nS : Nat) (k : Int32) : Int32 := if Int32.ofNat nS ≤ k then (916318735 : Int32) * (k + 1) else xs (cl k)
def lcv (x y : Int64) : Int32 := if x > y then 1 else if x = y then 0 else -1
theorem lv_lcmp {p : Program} {l : Launch} {e : Env} {R : Room} {s : State} {m : MethodId} {args : Array Value} {below : List Frame} {meth : Method} {c : Code} {H : Heap} {locs : List Loc} {cells slots : Nat} {Q : State → Prop} {cc : ByteArray} {pc : Nat} {ls : Array Slot} {rest : List Value} (hexec : p.tables.exec = Jvm.exec) (hb : c.code = cc) {x y : Int64} (hdg : decode cc pc = .ok (.lcmp, 1))
    (k : W p l e R s m args below meth c H locs cells slots Q (F0 m (pc + 1) ls (.int (lcv x y) :: rest))) : W p l e R s m args below meth c H locs cells slots Q (F0 m pc ls (.long y :: .long x :: rest)) := by
  intro T hT X
  obtain ⟨t, a, b⟩ := k T hT X
  refine ⟨t, ?_, b⟩
  by_cases h1 : x > y
  · have e1 : lcv x y = 1 := if_pos h1
    rw [e1] at a
    jvm_step X.here [X.here.top, hexec, hb, hdg, h1]
    exact a
  · by_cases h2 : x = y
    · have e1 : lcv x y = 0 := (if_neg h1).trans (if_pos h2)
      rw [e1] at a
      jvm_step X.here [X.here.top, hexec, hb, hdg, h1, h2]
      first | exact a | (rw [if_pos h2]; exact a) | (rw [if_neg h2]; exact a)
    · have e1 : lcv x y = -1 := (if_neg h1).trans (if_neg h2)
      rw [e1] at a
      jvm_step X.here [X.here.top, hexec, hb, hdg, h1, h2]
      first | exact a | (rw [if_pos h2]; exact a) | (rw [if_neg h2]; exact a)
theorem lcv_0 {x y : Int64} : lcv x y = 0 ↔ x = y := by
  unfold lcv
  by_cases h1 : x > y
  · rw [if_pos h1]
    refine ⟨fun h => absurd h (by decide), fun h => ?_⟩
    subst h
    exact absurd h1 Int64.lt_irrefl
  · rw [if_neg h1]
    by_cases h2 : x = y
    · rw [if_pos h2]; exact ⟨fun _ => h2, fun _ => rfl⟩
    · rw [if_neg h2]; exact ⟨fun h => absurd h (by decide), fun h => absurd h h2⟩
section VLAW
variable {p : Program} {l : Launch} {e : Env} {R : Room} {s : State} {m : MethodId} {args : Array Value} {below : List Frame} {meth : Method} {c : Code} {cells slots : Nat} {Q : State → Prop} {cc : ByteArray} {own : String} {nL : Nat} {G : Geo} {pc : Nat} {L L' : List (Nat × Value)} {st : List Value} {M : Mem}
theorem V_lcmp (hC : Cx p s m args c cc own nL G) {x y : Int64} (hd : decode cc pc = .ok (.lcmp, 1)) (kk : V p l e R s m args below meth c nL G cells slots Q (pc + 1) L (.int (lcv x y) :: st) M) : V p l e R s m args below meth c nL G cells slots Q pc L (.long y :: .long x :: st) M :=
  fun ls H locs hl hP hS => lv_lcmp hC.1 hC.2.1 hd (kk ls H locs hl hP hS)
theorem V_widen {k n : Nat} (h1 : cells ≤ k) (h2 : slots ≤ n) (kk : V p l e R s m args below meth c nL G k n Q pc L st M) : V p l e R s m args below meth c nL G cells slots Q pc L st M :=
  fun ls H locs hl hP hS => W.widen h1 h2 (kk ls H locs hl hP hS)
theorem V_slen (hC : Cx p s m args c cc own nL G) {b nS : Nat} {xs : Nat → Int32} (hX : va_X b nS xs s s.heap) (hbl : b < s.heap.size) (hbA : ¬ gA G b) (hd : decode cc pc = .ok (.arraylength, 1)) (kk : V p l e R s m args below meth c nL G cells slots Q (pc + 1) L (.int (Int32.ofNat nS) :: st) M) : V p l e R s m args below meth c nL G cells slots Q pc L (.ref b :: st) M :=
  fun ls H locs hl hP hS => va_slen hC.1 hC.2.1 hX hbl hbA hS hd (kk ls H locs hl hP hS)
theorem V_sld (hC : Cx p s m args c cc own nL G) {b nS : Nat} {xs : Nat → Int32} (hX : va_X b nS xs s s.heap) (hbl : b < s.heap.size) (hbA : ¬ gA G b) {i : Int32} (hin : inb i nS = true) (hd : decode cc pc = .ok (.iaload, 1)) (kk : V p l e R s m args below meth c nL G cells slots Q (pc + 1) L (.int (xs (cl i)) :: st) M) : V p l e R s m args below meth c nL G cells slots Q pc L (.int i :: .ref b :: st) M :=
  fun ls H locs hl hP hS => va_sld hC.1 hC.2.1 hX hbl hbA hS (inb_in hin) hd (kk ls H locs hl hP hS)
/-- behind a call of one of the law's own methods, which may leave a cell -/
theorem V_call2 {rv : Option Value} {M' : Mem} {st0 : List Value} {a : Array Value} (hr : ∀ (ls : Array Slot) (H : Heap) (locs : List Loc), lv_has ls nL L → va_P G.1 vwCl (WS G M) H → va_S (gA G) s.heap H locs → va_Run p l e R s m args below meth c H locs cells slots 1 6 (F0 m pc ls st0) st (gQ G rv M' a) (gA G)) (kk : V p l e R s m args below meth c nL G (cells + 1) (slots + 6) Q (pc + 3) L (rv.toList ++ st) M') : V p l e R s m args below meth c nL G cells slots Q pc L st0 M := by
  intro ls H locs hl hP hS T hT X
  obtain ⟨v, st₀, t, T', Lc, h0, X', hL, e1, e2, ⟨hv, hb, hz, hk⟩, hgo⟩ := hr ls H locs hl hP hS T hT X
  have hv' : v = rv := by cases hv; rfl
  subst hv'
  rw [h0] at hz hk
  obtain ⟨t2, a1, b1⟩ := kk ls T'.heap (locs ++ Lc) hl (by rw [e1]; exact hb.1)
    ⟨Nat.le_trans hS.1 (by rw [e1]; exact hz), fun q h1 h2 => by rw [e1, hk q (Nat.lt_of_lt_of_le h1 hS.1) h2]; exact hS.2.1 q h1 h2, fun q hq => by
      rcases List.mem_append.mp hq with h | h
      · exact hS.2.2 q h
      · exact hL q h⟩ T' rfl X'
  exact ⟨t2, hgo t2 a1, b1⟩
def cwx (y : MethodName) (bytes : ByteArray) (maxL : Nat) (ret : Option FieldType) (hh : List (Nat × Nat × Nat × Nat)) (n : Nat) : Prop := Cond.initialized y.cls ∈ GL ∧ Cond.codeWith y bytes maxL ret hh ∈ GL ∧ cwn y n
theorem V_cW (hC : Cx p s m args c cc own nL G) (hXF : XF G s) {y : MethodName} {bytes : ByteArray} {maxL n a index : Nat} {ret : Option FieldType} {hh : List (Nat × Nat × Nat × Nat)} {v : Value} {M' : Mem} (As : List Value) (hM : Met l y (.codeWith y bytes maxL ret hh :: GL) (rmx a) (gPx G As M) (gQ G (some v) M') 1 6 (gA G)) (hw : cwx y bytes maxL ret hh n) (hs : Cond.static y ∈ GL) (hl : Cond.methodLink own index y ∈ GL) (hR : a + 1 ≤ R.frames ∧ 8 + (maxL + 11) + 60 * a ≤ R.locals) (hn : As.length = n) (hst : (st.map fun v => v.category).sum ≤ 8) (hd : decode cc pc = .ok (.invokestatic index, 3)) (hf : cells + 1 ≤ R.cells ∧ slots + 6 ≤ R.slots) {st0 : List Value} (hst0 : st0 = As.reverse ++ st) (kk : V p l e R s m args below meth c nL G (cells + 1) (slots + 6) Q (pc + 3) L (v :: st) M') : V p l e R s m args below meth c nL G cells slots Q pc L st0 M := by
  refine V_call2 (rv := (some v)) (fun ls H locs hl9 hP hS => vx_runSW (rest := st) (bytes := bytes) (maxL := maxL) (ret := ret) (hh := hh) (n := n) (index := index) ⟨hC.1, hC.2.1, hC.2.2.1, hC.2.2.2.1, hC.2.2.2.2.1⟩ hM (vx_cwSW (Ts := GL) (ws' := GL) n hC.2.2.2.2.1 (fun w hw9 => ?_) rfl rfl rfl hw.2.2 hR) (prex_S hC hXF hP hS) rfl hn hl9.1 hst0 (lv_room hst) hd hf) kk
  have hg : w ∈ GL := by
    unfold va_wsS at hw9
    rcases List.mem_append.mp hw9 with h | h
    · simp only [List.mem_cons, List.not_mem_nil, or_false] at h
      rcases h with rfl | rfl | rfl
      · exact hl
      · exact hs
      · exact hw.1
    · rcases List.mem_cons.mp h with rfl | h
      · exact hw.2.1
      · exact h
  exact ⟨hg, GL_good _ hg⟩
theorem V_ishr (hC : Cx p s m args c cc own nL G) {x y : Int32} (hd : decode cc pc = .ok (.ishr, 1)) (kk : V p l e R s m args below meth c nL G cells slots Q (pc + 1) L (.int (x >>> (y &&& 31)) :: st) M) : V p l e R s m args below meth c nL G cells slots Q pc L (.int y :: .int x :: st) M :=
  fun ls H locs hl hP hS => lv_ishr hC.1 hC.2.1 hd (kk ls H locs hl hP hS)
theorem V_lconst (hC : Cx p s m args c cc own nL G) {n : Fin 2} (v : Int64) (hd : decode cc pc = .ok (.lconst n, 1)) (hv : Int64.ofNat (n : Nat) = v) (kk : V p l e R s m args below meth c nL G cells slots Q (pc + 1) L (.long v :: st) M) : V p l e R s m args below meth c nL G cells slots Q pc L st M :=
  fun ls H locs hl hP hS => lv_lconst hC.1 hC.2.1 hd hv (kk ls H locs hl hP hS)
/-- behind a call that may leave cells -/
theorem V_callK {K : Nat} {rv : Option Value} {M' : Mem} {st0 : List Value} {a : Array Value} (hr : ∀ (ls : Array Slot) (H : Heap) (locs : List Loc), lv_has ls nL L → va_P G.1 vwCl (WS G M) H → va_S (gA G) s.heap H locs → va_Run p l e R s m args below meth c H locs cells slots K (6 * K) (F0 m pc ls st0) st (gQ G rv M' a) (gA G)) (kk : V p l e R s m args below meth c nL G (cells + K) (slots + 6 * K) Q (pc + 3) L (rv.toList ++ st) M') : V p l e R s m args below meth c nL G cells slots Q pc L st0 M := by
  intro ls H locs hl hP hS T hT X
  obtain ⟨v, st₀, t, T', Lc, h0, X', hL, e1, e2, ⟨hv, hb, hz, hk⟩, hgo⟩ := hr ls H locs hl hP hS T hT X
  have hv' : v = rv := by cases hv; rfl
  subst hv'
  rw [h0] at hz hk
  obtain ⟨t2, a1, b1⟩ := kk ls T'.heap (locs ++ Lc) hl (by rw [e1]; exact hb.1)
    ⟨Nat.le_trans hS.1 (by rw [e1]; exact hz), fun q h1 h2 => by rw [e1, hk q (Nat.lt_of_lt_of_le h1 hS.1) h2]; exact hS.2.1 q h1 h2, fun q hq => by
      rcases List.mem_append.mp hq with h | h
      · exact hS.2.2 q h
      · exact hL q h⟩ T' rfl X'
  exact ⟨t2, hgo t2 a1, b1⟩
theorem cwx_in {y : MethodName} {bytes : ByteArray} {maxL n index : Nat} {ret : Option FieldType} {hh : List (Nat × Nat × Nat × Nat)} (hw : cwx y bytes maxL ret hh n) (hs : Cond.static y ∈ GL) (hl : Cond.methodLink own index y ∈ GL) {w : Cond} (hw9 : w ∈ va_wsS own index y (.codeWith y bytes maxL ret hh :: GL)) : w ∈ GL := by
  unfold va_wsS at hw9
  rcases List.mem_append.mp hw9 with h | h
  · simp only [List.mem_cons, List.not_mem_nil, or_false] at h
    rcases h with rfl | rfl | rfl
    · exact hl
    · exact hs
    · exact hw.1
  · rcases List.mem_cons.mp h with rfl | h
    · exact hw.2.1
    · exact h
/-- a wrapper that throws nothing here -/
theorem V_cW0 (hC : Cx p s m args c cc own nL G) (hXF : XF G s) {y : MethodName} {bytes : ByteArray} {maxL n a index : Nat} {ret : Option FieldType} {hh : List (Nat × Nat × Nat × Nat)} {v : Value} {M' : Mem} (As : List Value) (hM : Met l y (.codeWith y bytes maxL ret hh :: GL) (rmk a) (gPx G As M) (gQ G (some v) M') 0 0 (gA G)) (hw : cwx y bytes maxL ret hh n) (hs : Cond.static y ∈ GL) (hl : Cond.methodLink own index y ∈ GL) (hR : a + 1 ≤ R.frames ∧ 8 + (maxL + 11) + 60 * a ≤ R.locals) (hn : As.length = n) (hst : (st.map fun v => v.category).sum ≤ 8) (hd : decode cc pc = .ok (.invokestatic index, 3)) (hf : cells + 0 ≤ R.cells ∧ slots + 6 * 0 ≤ R.slots) {st0 : List Value} (hst0 : st0 = As.reverse ++ st) (kk : V p l e R s m args below meth c nL G cells slots Q (pc + 3) L (v :: st) M') : V p l e R s m args below meth c nL G cells slots Q pc L st0 M :=
  V_call (rv := (some v)) (fun ls H locs hl9 hP hS => vx_runSW (rest := st) (bytes := bytes) (maxL := maxL) (ret := ret) (hh := hh) (n := n) (index := index) ⟨hC.1, hC.2.1, hC.2.2.1, hC.2.2.2.1, hC.2.2.2.2.1⟩ hM (vx_cwSW (Ts := GL) (ws' := GL) n hC.2.2.2.2.1 (fun w hw9 => ⟨cwx_in hw hs hl hw9, GL_good _ (cwx_in hw hs hl hw9)⟩) rfl rfl rfl hw.2.2 hR) (prex_S hC hXF hP hS) rfl hn hl9.1 hst0 (lv_room hst) hd hf) kk
/-- another method of the law's own -/
theorem V_cL {K : Nat} (hC : Cx p s m args c cc own nL G) (hXF : XF G s) {y : MethodName} {bytes : ByteArray} {maxL n a index : Nat} {ret : Option FieldType} {v : Value} {M' : Mem} (As : List Value) (hM : Met l y (.code y bytes maxL ret :: GL) (rmc a K) (gPx G As M) (gQ G (some v) M') K (6 * K) (gA G)) (hw : cwd y bytes maxL ret n) (hs : Cond.static y ∈ GL) (hl : Cond.methodLink own index y ∈ GL) (hR : a + 1 ≤ R.frames ∧ 8 + (maxL + 11) + 60 * a ≤ R.locals) (hn : As.length = n) (hst : (st.map fun v => v.category).sum ≤ 8) (hd : decode cc pc = .ok (.invokestatic index, 3)) (hf : cells + K ≤ R.cells ∧ slots + 6 * K ≤ R.slots) {st0 : List Value} (hst0 : st0 = As.reverse ++ st) (kk : V p l e R s m args below meth c nL G (cells + K) (slots + 6 * K) Q (pc + 3) L (v :: st) M') : V p l e R s m args below meth c nL G cells slots Q pc L st0 M :=
  V_callK (rv := (some v)) (fun ls H locs hl9 hP hS => va_runS (rest := st) ⟨hC.1, hC.2.1, hC.2.2.1, hC.2.2.2.1, hC.2.2.2.2.1⟩ hM ⟨callB_of n hC.2.2.2.2.1 (good_code hw) rfl rfl rfl (hC.2.2.2.2.1 _ hw.1) (hC.2.2.2.2.1 _ hl) hw.2.2 hR, hC.2.2.2.2.1 _ hs⟩ (prex_S hC hXF hP hS) rfl hn hl9.1 hst0 (lv_room hst) hd hf) kk
theorem V_piret (hC : Cx p s m args c cc own nL G) (hr : meth.sig.returnType = some .int) (hlk : meth.locks = false) {k n : Nat} (h1 : cells ≤ k) (h2 : slots ≤ n) {v : Int32} (hd : decode cc pc = .ok (.ireturn, 1)) : V p l e R s m args below meth c nL G cells slots (MQ below (gQ G (some (.int v)) M) args s k n (gA G)) pc L [.int v] M :=
  fun ls H locs hl hP hS => W.widen h1 h2 (V_iret hC hr hlk hd ls H locs hl hP hS)
theorem V_pzret (hC : Cx p s m args c cc own nL G) (hr : meth.sig.returnType = some .boolean) (hlk : meth.locks = false) {k n : Nat} (h1 : cells ≤ k) (h2 : slots ≤ n) {v : Int32} (hv : v = 0 ∨ v = 1) (hd : decode cc pc = .ok (.ireturn, 1)) : V p l e R s m args below meth c nL G cells slots (MQ below (gQ G (some (.int v)) M) args s k n (gA G)) pc L [.int v] M :=
  fun ls H locs hl hP hS => W.widen h1 h2 (V_zret hC hr hlk hv hd ls H locs hl hP hS)
theorem V_plret (hC : Cx p s m args c cc own nL G) (hr : meth.sig.returnType = some .long) (hlk : meth.locks = false) {k n : Nat} (h1 : cells ≤ k) (h2 : slots ≤ n) {v : Int64} (hd : decode cc pc = .ok (.lreturn, 1)) : V p l e R s m args below meth c nL G cells slots (MQ below (gQ G (some (.long v)) M) args s k n (gA G)) pc L [.long v] M :=
  fun ls H locs hl hP hS => W.widen h1 h2 (V_lret hC hr hlk hd ls H locs hl hP hS)
theorem V_u {u : Nat} (hu : u = 0) (kk : V p l e R s m args below meth c nL G u (6 * u) Q pc L st M) : V p l e R s m args below meth c nL G 0 0 Q pc L st M := by
  subst hu
  exact kk
theorem V_u1 {u : Nat} (hu : u = 0) (kk : V p l e R s m args below meth c nL G (1000 + u) (100000 + 6 * u) Q pc L st M) : V p l e R s m args below meth c nL G 1000 100000 Q pc L st M := by
  subst hu
  exact kk
theorem V_lend {b : Nat} {d0 : Drawn} (hC : Cx p (s.setDrawn d0) m #[Value.ref b] c code RL 11 G) (hd0 : s.drawn.sameBut d0 lw_cs) (hgA : ∀ q, gA G q → s.heap.size ≤ q) (hr : meth.sig.returnType = ret) (hlk : meth.locks = false) (h1 : cells ≤ 721783) (h2 : slots ≤ 6936274) (hd : decode code pc = .ok (.ireturn, 1)) : V p l e room_1 (s.setDrawn d0) m #[Value.ref b] below meth c 11 G cells slots (lw_Z below #[Value.ref b] s) pc L [.int 1] M :=
  fun ls H locs hl hP hS => va_forget (fun q hq => hgA _ (hS.2.2 q hq)) (W.widen h1 h2 (lw_ret hd0 hC.1 hC.2.1 hr hlk hd))
end VLAW
/-- the contract of a method of the law's own, out of the walk V of its body -/
theorem PMet_of {l : Launch} {y : MethodName} {cc : ByteArray} {maxL a K : Nat} {ret : Option FieldType} {own : String} {G : Geo} (hG : gD G) {av : List Value} {M M' : Mem} {rv : Option Value} {L : List (Nat × Value)} (hy : plainName y.cls = true) (hown : y.cls = own) (hav : (lg_sl av).length ≤ maxL) (hL : lv_args 0 av = L)
    (body : ∀ (p : Program) (e : Env) (s : State) (m : MethodId) (args : Array Value) (below : List Frame) (meth : Method) (c : Code), Cx p s m args c cc own maxL G → XF G s → meth.sig.returnType = ret → meth.locks = false → V p l e (rmc a K) s m args below meth c maxL G 0 0 (MQ below (gQ G rv M') args s K (6 * K) (gA G)) 0 L [] M) :
    Met l y (.code y cc maxL ret :: GL) (rmc a K) (gPx G av M) (gQ G rv M') K (6 * K) (gA G) := by
  refine Met.ofW (cc := cc) (maxL := maxL) (ret := ret) hy rfl ?_
  intro p e s m args below meth c s₁ B hml hv
  obtain ⟨rfl, ⟨hP, hK, hN⟩, hX⟩ := hv
  have hts := atoms_spec (ws := .code y cc maxL ret :: GL) B.pre
  have hfc : s.vm.findClass own = some m.cls := by rw [← hown]; exact findClass_of_methodNamed B.named
  have hS : va_S (gA G) s.heap s.heap [] := va_S.rf
  have hl := lv_entry av (n := maxL) hav
  rw [hL] at hl
  rw [lg_entry_eq]
  exact body p e s m av.toArray below meth c ⟨B.exec, B.bytes, hml, hfc, fun w hw => hts w (List.mem_cons_of_mem _ hw), hK, hN, hG⟩ hX B.returns B.notSynchronized _ _ _ hl hP hS
/-- a wrapper that throws nothing here, out of its body's walk -/
theorem W0Met_of {l : Launch} {y : MethodName} {cc : ByteArray} {maxL a : Nat} {ret : Option FieldType} {hh : List (Nat × Nat × Nat × Nat)} {own : String} {G : Geo} (hG : gD G) {av : List Value} {M M' : Mem} {rv : Option Value} {L : List (Nat × Value)} (hy : plainName y.cls = true) (hown : y.cls = own) (hav : (lg_sl av).length ≤ maxL) (hL : lv_args 0 av = L)
    (body : ∀ (p : Program) (e : Env) (s : State) (m : MethodId) (args : Array Value) (below : List Frame) (meth : Method) (c : Code), Cx p s m args c cc own maxL G → XF G s → c.exceptionTable.toList = tableOf hh → meth.sig.returnType = ret → meth.locks = false → V p l e (rmk a) s m args below meth c maxL G 0 0 (MQ below (gQ G rv M') args s 0 0 (gA G)) 0 L [] M) :
    Met l y (.codeWith y cc maxL ret hh :: GL) (rmk a) (gPx G av M) (gQ G rv M') 0 0 (gA G) := by
  refine MetFree.of_bodyS (code := cc) (maxLocals := maxL) (ret := ret) hy ?_ ?_
  · intro args s m h hn
    obtain ⟨m9, meth, c, hn9, h1, h2, h3, h4, -, h5, h6, -⟩ := Cond.codeWith_spec (atoms_spec (ws := .codeWith y cc maxL ret hh :: GL) h _ List.mem_cons_self)
    cases hn.symm.trans hn9
    exact ⟨meth, c, h1, h2, h3, h4, h5, h6⟩
  · intro p e s m args below meth c s₁ B hml hv _
    have hh0 : s₁.heap = s.heap := by rw [B.state]; rfl
    obtain ⟨rfl, ⟨hP, hK, hN⟩, hX⟩ := hv
    have hts := atoms_spec (ws := .codeWith y cc maxL ret hh :: GL) B.pre
    have htab := vx_table (x := y) B (hts _ List.mem_cons_self)
    have hfc : s.vm.findClass own = some m.cls := by rw [← hown]; exact findClass_of_methodNamed B.named
    have hS : va_S (gA G) s.heap s.heap [] := va_S.rf
    have hl := lv_entry av (n := maxL) hav
    rw [hL] at hl
    have K := body p e s m av.toArray below meth c ⟨B.exec, B.bytes, hml, hfc, fun w hw => hts w (List.mem_cons_of_mem _ hw), hK, hN, hG⟩ hX htab B.returns B.notSynchronized _ _ _ hl hP hS
    rw [← lg_entry_eq] at K
    obtain ⟨t, a1, o, b1, b2, b3⟩ := K s₁ hh0 (Stand.of_body B)
    exact ⟨t, o, a1, b1, b2, ⟨b3.1, b3.2⟩⟩
/-- the script beside the world -/
def gPs (G : Geo) (b nS : Nat) (xs : Nat → Int32) (av : List Value) (M : Mem) : Array Value → State → Prop := fun v U => v = av.toArray ∧ gS G M U ∧ va_X b nS xs U U.heap ∧ b < U.heap.size ∧ ¬ gA G b
theorem gPs_blind (G : Geo) (b nS : Nat) (xs : Nat → Int32) (av : List Value) (M : Mem) : FrameBlind (gPs G b nS xs av M) := fun a U g mk h => ⟨h.1, ⟨h.2.1.1, va_K.moved (u := U) (U := U.calling g mk a) (Vm.Alike.refl U.vm) h.2.1.2.1, nw_same (s := U) (U := U.calling g mk a) rfl h.2.1.2.2⟩, va_X.moved (u := U) (U := U.calling g mk a) (Vm.Alike.refl U.vm) h.2.2.1, h.2.2.2⟩
