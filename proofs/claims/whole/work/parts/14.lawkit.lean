/-! THE CLAIM OUT OF ONE WALK OF THE LAW'S BODY. Your part is whole_start (and what it stands on); all else here is the same for every law, but numbers. -/
def R_law : String := "SectionDeskLaw"
def lw_P (b : Addr) (xs : List Int32) (args : Array Value) (s : State) : Prop := args = #[.ref b] ∧ s.IntsAt b xs ∧ xs.length ≤ 2560 ∧ (Jvm.Cond.and given_1 narrow_1).before args s = true
/-- what a walk over the start with the record d0 says of its end, said of the start itself -/
theorem lw_closed {s t : State} {o : Outcome} {d0 : Drawn} {L : List Loc} {k n : Nat} (hd0 : s.drawn.sameBut d0 lw_cs) (hv : ∃ v, o = .returned v) (hW : (s.setDrawn d0).WarmedH t.vm) (hs : (s.setDrawn d0).sameButNew ({ t with vm := s.vm } : State) L k n) : State.butDraws s t lw_cs (fun t1 => Framed s o t1 L k n) := by
  have h2 : t.drawn = d0 := congrArg State.drawn hs.1
  refine ⟨⟨hv, hW, State.sameButNew.setDrawn hs s.drawn⟩, ?_, by decide⟩
  rw [h2]
  exact hd0
def lw_Q (_ : Array Value) (s : State) (o : Outcome) (t : State) : Prop := o = .returned (some (.int 1)) ∧ State.butDraws s t lw_cs (fun t1 => Framed s o t1 [] 601024 7293034)
def lw_Z (below : List Frame) (a : Array Value) (s : State) : State → Prop := fun t => ∃ o, t.status = .running ∧ Ended t below o ∧ lw_Q a s o t
/-- the law's own end, with 1 on the stack, nothing written that was there before, its room as the claim has it; d0: the record of draws at this point (at the entry s.drawn: begin with 'refine W.base ?_' and 'have hd0 := Drawn.sameBut.refl s.drawn lw_cs') -/
theorem lw_ret {p : Program} {l : Launch} {e : Env} {s : State} {m : MethodId} {below : List Frame} {meth : Method} {c : Code} {b : Nat} {d0 : Drawn} (hd0 : s.drawn.sameBut d0 lw_cs) (hx : p.tables.exec = Jvm.exec) (hb : c.code = code) (hr : meth.sig.returnType = ret) (hlocks : meth.locks = false) {pc : Nat} {H : Heap} {ls : Array Slot} (hdg : decode code pc = .ok (.ireturn, 1)) : W p l e room_1 (s.setDrawn d0) m #[Value.ref b] below meth c H [] 601024 7293034 (lw_Z below #[Value.ref b] s) (F0 m pc ls [.int 1]) := by
  intro T hT X
  obtain ⟨fs, hret, hrun, hended, hW, hframe⟩ := X.leave (v := some (.int 1)) (hlocks := hlocks) (fun h => by rw [hr] at h; cases h)
  have hmeth' : T.vm.method? m = some meth := X.method'
  refine ⟨T.setFrames fs, ?_, .returned (some (.int 1)), hrun, hended, rfl, lw_closed hd0 ⟨_, rfl⟩ hW hframe⟩
  jvm_step X.here [X.here.top, hx, hb, hdg, hmeth', hr, ret, narrow_b1]
  (try refine ⟨rfl, ?_⟩); (try refine ⟨rfl, ?_⟩)
  first | (intro acts; rw [hret _ acts rfl rfl rfl]) | rw [hret _ _ rfl rfl rfl]
  exact Steps.refl _
/-- what holds at the law's entry: the machine, the code, the tables' words (any of lw_tbl by 'hts w (by decide +kernel)'), the script of L ints xs at the cell b, what the Statement gives of the start (any of its parts by flat_of_before) -/
def lw_At (p : Program) (s : State) (m : MethodId) (meth : Method) (c : Code) (b L : Nat) (xs : Nat → Int32) : Prop :=
  p.tables.exec = Jvm.exec ∧ c.code = code ∧ meth.sig.returnType = ret ∧ c.maxLocals = 7 ∧ s.vm.findClass R_law = some m.cls ∧ (∀ w ∈ lw_tbl, w.before #[Value.ref b] s = true) ∧ va_X b L xs s s.heap ∧ b < s.heap.size ∧ meth.locks = false ∧ (Jvm.Cond.and given_1 narrow_1).before #[Value.ref b] s = true
/-! ===== the law's own rows over V ===== -/
def lcv (x y : Int64) : Int32 := if x > y then 1 else if x = y then 0 else -1
theorem lv_lcmp {p : Program} {l : Launch} {e : Env} {R : Room} {s : State} {m : MethodId} {args : Array Value} {below : List Frame} {meth : Method} {c : Code} {H : Heap} {locs : List Loc} {cells slots : Nat} {Q : State → Prop} {cc : ByteArray} {pc : Nat} {ls : Array Slot} {rest : List Value} (hexec : p.tables.exec = Jvm.exec) (hb : c.code = cc) {x y : Int64} (hdg : decode cc pc = .ok (.lcmp, 1))
    (k : W p l e R s m args below meth c H locs cells slots Q (F0 m (pc + 1) ls (.int (lcv x y) :: rest))) : W p l e R s m args below meth c H locs cells slots Q (F0 m pc ls (.long y :: .long x :: rest)) := by
  intro T hT X
  obtain ⟨t, a, b⟩ := k T hT X
  refine ⟨t, ?_, b⟩
  by_cases h1 : x > y
  · have e1 : lcv x y = 1 := if_pos h1
    rw [e1] at a
    jvm_step X.here [X.here.top, hexec, hb, hdg, h1]
    exact a
  · by_cases h2 : x = y
    · have e1 : lcv x y = 0 := (if_neg h1).trans (if_pos h2)
      rw [e1] at a
      jvm_step X.here [X.here.top, hexec, hb, hdg, h1, h2]
      first | exact a | (rw [if_pos h2]; exact a) | (rw [if_neg h2]; exact a)
    · have e1 : lcv x y = -1 := (if_neg h1).trans (if_neg h2)
      rw [e1] at a
      jvm_step X.here [X.here.top, hexec, hb, hdg, h1, h2]
      first | exact a | (rw [if_pos h2]; exact a) | (rw [if_neg h2]; exact a)
theorem lcv_0 {x y : Int64} : lcv x y = 0 ↔ x = y := by
  unfold lcv
  by_cases h1 : x > y
  · rw [if_pos h1]
    refine ⟨fun h => absurd h (by decide), fun h => ?_⟩
    subst h
    exact absurd h1 Int64.lt_irrefl
  · rw [if_neg h1]
    by_cases h2 : x = y
    · rw [if_pos h2]; exact ⟨fun _ => h2, fun _ => rfl⟩
    · rw [if_neg h2]; exact ⟨fun h => absurd h (by decide), fun h => absurd h h2⟩
section VLAW
variable {p : Program} {l : Launch} {e : Env} {R : Room} {s : State} {m : MethodId} {args : Array Value} {below : List Frame} {meth : Method} {c : Code} {cells slots : Nat} {Q : State → Prop} {cc : ByteArray} {own : String} {nL : Nat} {G : Geo} {pc : Nat} {L L' : List (Nat × Value)} {st : List Value} {M : Mem}
theorem V_lcmp (hC : Cx p s m args c cc own nL G) {x y : Int64} (hd : decode cc pc = .ok (.lcmp, 1)) (kk : V p l e R s m args below meth c nL G cells slots Q (pc + 1) L (.int (lcv x y) :: st) M) : V p l e R s m args below meth c nL G cells slots Q pc L (.long y :: .long x :: st) M :=
  fun ls H locs hl hP hS => lv_lcmp hC.1 hC.2.1 hd (kk ls H locs hl hP hS)
theorem V_widen {k n : Nat} (h1 : cells ≤ k) (h2 : slots ≤ n) (kk : V p l e R s m args below meth c nL G k n Q pc L st M) : V p l e R s m args below meth c nL G cells slots Q pc L st M :=
  fun ls H locs hl hP hS => W.widen h1 h2 (kk ls H locs hl hP hS)
theorem V_slen (hC : Cx p s m args c cc own nL G) {b nS : Nat} {xs : Nat → Int32} (hX : va_X b nS xs s s.heap) (hbl : b < s.heap.size) (hbA : ¬ gA G b) (hd : decode cc pc = .ok (.arraylength, 1)) (kk : V p l e R s m args below meth c nL G cells slots Q (pc + 1) L (.int (Int32.ofNat nS) :: st) M) : V p l e R s m args below meth c nL G cells slots Q pc L (.ref b :: st) M :=
  fun ls H locs hl hP hS => va_slen hC.1 hC.2.1 hX hbl hbA hS hd (kk ls H locs hl hP hS)
theorem V_sld (hC : Cx p s m args c cc own nL G) {b nS : Nat} {xs : Nat → Int32} (hX : va_X b nS xs s s.heap) (hbl : b < s.heap.size) (hbA : ¬ gA G b) {i : Int32} (hin : inb i nS = true) (hd : decode cc pc = .ok (.iaload, 1)) (kk : V p l e R s m args below meth c nL G cells slots Q (pc + 1) L (.int (xs (cl i)) :: st) M) : V p l e R s m args below meth c nL G cells slots Q pc L (.int i :: .ref b :: st) M :=
  fun ls H locs hl hP hS => va_sld hC.1 hC.2.1 hX hbl hbA hS (inb_in hin) hd (kk ls H locs hl hP hS)
/-- behind a call of one of the law's own methods, which may leave a cell -/
theorem V_call2 {rv : Option Value} {M' : Mem} {st0 : List Value} {a : Array Value} (hr : ∀ (ls : Array Slot) (H : Heap) (locs : List Loc), lv_has ls nL L → va_P G.1 vwCl (WS G M) H → va_S (gA G) s.heap H locs → va_Run p l e R s m args below meth c H locs cells slots 1 6 (F0 m pc ls st0) st (gQ G rv M' a) (gA G)) (kk : V p l e R s m args below meth c nL G (cells + 1) (slots + 6) Q (pc + 3) L (rv.toList ++ st) M') : V p l e R s m args below meth c nL G cells slots Q pc L st0 M := by
  intro ls H locs hl hP hS T hT X
  obtain ⟨v, st₀, t, T', Lc, h0, X', hL, e1, e2, ⟨hv, hb, hz, hk⟩, hgo⟩ := hr ls H locs hl hP hS T hT X
  have hv' : v = rv := by cases hv; rfl
  subst hv'
  rw [h0] at hz hk
  obtain ⟨t2, a1, b1⟩ := kk ls T'.heap (locs ++ Lc) hl (by rw [e1]; exact hb.1)
    ⟨Nat.le_trans hS.1 (by rw [e1]; exact hz), fun q h1 h2 => by rw [e1, hk q (Nat.lt_of_lt_of_le h1 hS.1) h2]; exact hS.2.1 q h1 h2, fun q hq => by
      rcases List.mem_append.mp hq with h | h
      · exact hS.2.2 q h
      · exact hL q h⟩ T' rfl X'
  exact ⟨t2, hgo t2 a1, b1⟩
def cwx (y : MethodName) (bytes : ByteArray) (maxL : Nat) (ret : Option FieldType) (hh : List (Nat × Nat × Nat × Nat)) (n : Nat) : Prop := Cond.initialized y.cls ∈ GL ∧ Cond.codeWith y bytes maxL ret hh ∈ GL ∧ cwn y n
theorem V_cW (hC : Cx p s m args c cc own nL G) (hXF : XF G s) {y : MethodName} {bytes : ByteArray} {maxL n a index : Nat} {ret : Option FieldType} {hh : List (Nat × Nat × Nat × Nat)} {v : Value} {M' : Mem} (As : List Value) (hM : Met l y (.codeWith y bytes maxL ret hh :: GL) (rmx a) (gPx G As M) (gQ G (some v) M') 1 6 (gA G)) (hw : cwx y bytes maxL ret hh n) (hs : Cond.static y ∈ GL) (hl : Cond.methodLink own index y ∈ GL) (hR : a + 1 ≤ R.frames ∧ 8 + (maxL + 11) + 60 * a ≤ R.locals) (hn : As.length = n) (hst : (st.map fun v => v.category).sum ≤ 8) (hd : decode cc pc = .ok (.invokestatic index, 3)) (hf : cells + 1 ≤ R.cells ∧ slots + 6 ≤ R.slots) {st0 : List Value} (hst0 : st0 = As.reverse ++ st) (kk : V p l e R s m args below meth c nL G (cells + 1) (slots + 6) Q (pc + 3) L (v :: st) M') : V p l e R s m args below meth c nL G cells slots Q pc L st0 M := by
  refine V_call2 (rv := (some v)) (fun ls H locs hl9 hP hS => vx_runSW (rest := st) (bytes := bytes) (maxL := maxL) (ret := ret) (hh := hh) (n := n) (index := index) ⟨hC.1, hC.2.1, hC.2.2.1, hC.2.2.2.1, hC.2.2.2.2.1⟩ hM (vx_cwSW (Ts := GL) (ws' := GL) n hC.2.2.2.2.1 (fun w hw9 => ?_) rfl rfl rfl hw.2.2 hR) (prex_S hC hXF hP hS) rfl hn hl9.1 hst0 (lv_room hst) hd hf) kk
  have hg : w ∈ GL := by
    unfold va_wsS at hw9
    rcases List.mem_append.mp hw9 with h | h
    · simp only [List.mem_cons, List.not_mem_nil, or_false] at h
      rcases h with rfl | rfl | rfl
      · exact hl
      · exact hs
      · exact hw.1
    · rcases List.mem_cons.mp h with rfl | h
      · exact hw.2.1
      · exact h
  exact ⟨hg, GL_good _ hg⟩
theorem V_lend {b : Nat} {d0 : Drawn} (hC : Cx p (s.setDrawn d0) m #[Value.ref b] c code RL 7 G) (hd0 : s.drawn.sameBut d0 lw_cs) (hgA : ∀ q, gA G q → s.heap.size ≤ q) (hr : meth.sig.returnType = ret) (hlk : meth.locks = false) (h1 : cells ≤ 601024) (h2 : slots ≤ 7293034) (hd : decode code pc = .ok (.ireturn, 1)) : V p l e room_1 (s.setDrawn d0) m #[Value.ref b] below meth c 7 G cells slots (lw_Z below #[Value.ref b] s) pc L [.int 1] M :=
  fun ls H locs hl hP hS => va_forget (fun q hq => hgA _ (hS.2.2 q hq)) (W.widen h1 h2 (lw_ret hd0 hC.1 hC.2.1 hr hlk hd))
end VLAW
/-- the cells and slots that the objects take -/
abbrev K0 : Nat := 1000
abbrev K1 : Nat := 100000
theorem law_rm {k cells slots : Nat} (hk : k ≤ 512) (h1 : cells ≤ K0 + (k + 1)) (h2 : slots ≤ K1 + 6 * (k + 1)) : cells ≤ room_1.cells ∧ slots ≤ room_1.slots := by
  show cells ≤ 601024 ∧ slots ≤ 7293034
  unfold K0 at h1
  unfold K1 at h2
  omega
