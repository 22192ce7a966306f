/-! ===== small words of the printed functions, and the rows of natives and floats ===== -/
def FU : Nat := 1000000
def isb (x : Int32) : Bool := decide (x = 0 ∨ x = 1)
theorem of_isb {x : Int32} (h : isb x = true) : x = 0 ∨ x = 1 := of_decide_eq_true h
def gok (x : Nat) : Bool := decide (x < 6)
theorem of_gok {x : Nat} (h : gok x = true) : x < 6 := of_decide_eq_true h
def nn (r : UInt32) : Bool := decide (r &&& 0x7fffffff ≤ 0x7f800000)
theorem of_nn {r : UInt32} (h : nn r = true) : vf_n32 r := by
  have h2 : r &&& 0x7fffffff ≤ 0x7f800000 := of_decide_eq_true h
  exact h2
def cpk (sp dp n : Int32) (n0 n1 : Nat) : Bool := decide (¬ sp < 0 ∧ ¬ dp < 0 ∧ ¬ n < 0 ∧ cl sp + cl n ≤ n0 ∧ cl dp + cl n ≤ n1)
theorem of_cpk {sp dp n : Int32} {n0 n1 : Nat} (h : cpk sp dp n n0 n1 = true) : ¬ sp < 0 ∧ ¬ dp < 0 ∧ ¬ n < 0 ∧ cl sp + cl n ≤ n0 ∧ cl dp + cl n ≤ n1 := of_decide_eq_true h
def imin (x y : Int32) : Int32 := if y < x then y else x
def imax (x y : Int32) : Int32 := if x < y then y else x
theorem bind_some {α β : Type} {o : Option α} {f : α → Option β} {r : β} (h : o.bind f = some r) : ∃ q, o = some q ∧ f q = some r := by
  cases o with
  | none => cases h
  | some q => exact ⟨q, rfl, h⟩
theorem ite_some {α : Type} {c : Prop} {d : Decidable c} {a : Option α} {r : α} (h : @ite _ c d a none = some r) : c ∧ a = some r := by
  by_cases hc : c
  · rw [if_pos hc] at h; exact ⟨hc, h⟩
  · rw [if_neg hc] at h; cases h
theorem ite_t {α : Type} {c : Prop} {d : Decidable c} {a b r : α} (hc : c) (h : @ite _ c d a b = r) : a = r := by rw [if_pos hc] at h; exact h
theorem ite_f {α : Type} {c : Prop} {d : Decidable c} {a b r : α} (hc : ¬ c) (h : @ite _ c d a b = r) : b = r := by rw [if_neg hc] at h; exact h
/-- a table's default: x is none of the values lo, lo + 1 .. -/
def tswP : Int → Nat → Int32 → Prop
  | _, 0, _ => True
  | lo, n + 1, x => ¬ x.toInt = lo ∧ tswP (lo + 1) n x
theorem tsw_nil {lo : Int} {x : Int32} : tswP lo 0 x := trivial
theorem tsw_cons {lo : Int} {n : Nat} {x k : Int32} (h : ¬ x = k) (hk : k.toInt = lo) (h2 : tswP (lo + 1) n x) : tswP lo (n + 1) x := ⟨fun z => h (Int32.toInt_inj.mp (z.trans hk.symm)), h2⟩
theorem tsw_lt : ∀ (n : Nat) (lo : Int) (x : Int32), tswP lo n x → x.toInt < lo ∨ lo + n - 1 < x.toInt
  | 0, lo, x, _ => by omega
  | n + 1, lo, x, h => by
    have h2 := tsw_lt n (lo + 1) x h.2
    have h1 := h.1
    omega
theorem tsw_out {hi : Int} (lo : Int) (n : Nat) (x : Int32) (h : tswP lo n x) (hh : lo + n - 1 = hi) : x.toInt < lo ∨ hi < x.toInt := by
  have := tsw_lt n lo x h
  omega
section VR2
variable {p : Program} {l : Launch} {e : Env} {R : Room} {s : State} {m : MethodId} {args : Array Value} {below : List Frame} {meth : Method} {c : Code} {cells slots : Nat} {Q : State → Prop} {cc : ByteArray} {own : String} {nL : Nat} {G : Geo} {pc : Nat} {L L' : List (Nat × Value)} {st : List Value} {M : Mem}
theorem cpy_words : nativeFrameWords "java/lang/System" "arraycopy" 5 ≤ 40 := by decide +kernel
theorem V_copyi (hC : Cx p s m args c cc own nL G) {index g1 j1 n1 q1 g2 j2 n2 q2 : Nat} {sp dp n : Int32} (h1 : isI G g1 j1 n1 q1) (h2 : isI G g2 j2 n2 q2) (hk : cpk sp dp n n1 n2 = true) (w1 : Cond.methodLink own index arraycopyName ∈ GL) (w2 : Cond.native arraycopyName ∈ GL) (w3 : Cond.static arraycopyName ∈ GL) (w4 : Cond.initialized "java/lang/System" ∈ GL) (hf : 1 ≤ R.frames) (hlo : 59 ≤ R.locals) (hst : (st.map fun v => v.category).sum ≤ 8) (hd : decode cc pc = .ok (.invokestatic index, 3)) (kk : V p l e R s m args below meth c nL G cells slots Q (pc + 3) L st (wrs M g2 j2 (va_cpy (M.1 g1 j1) (M.1 g2 j2) (cl sp) (cl dp) (cl n)))) : V p l e R s m args below meth c nL G cells slots Q pc L (.int n :: .int dp :: .ref (adr G g2 j2) :: .int sp :: .ref (adr G g1 j1) :: st) M := by
  obtain ⟨k1, k2, k3, k4, k5⟩ := of_cpk hk
  intro ls H locs hl hP hS
  have hw := cpy_words
  refine va_copyi hC.1 hC.2.1 (hC.2.2.1.trans hl.1.symm) hC.2.2.2.1 (hC.2.2.2.2.1 _ w1) (hC.2.2.2.2.1 _ w2) (hC.2.2.2.2.1 _ w3) (hC.2.2.2.2.1 _ w4) hC.2.2.2.2.2.1 hP (hC.2.2.2.2.2.2.2 M) hS q1 q2 0 0 (ty := .int) ((ws_get h1.1).trans (by rw [h1.2])) ((ws_get h2.1).trans (by rw [h2.2])) rfl rfl rfl k1 k2 k3 k4 k5 (fun _ _ => rfl) hf (by omega) hd (fun H1 locs1 hP1 _ hS1 => kk ls H1 locs1 hl ?_ hS1)
  have h := ws_set (G := G) (M := M) (va_cpy (M.1 g1 j1) (M.1 g2 j2) (cl sp) (cl dp) (cl n)) h2.1
  rw [h2.2] at h
  rw [← h]
  exact hP1
theorem V_f2raw (hC : Cx p s m args c cc own nL G) {index : Nat} {b : UInt32} (w1 : Cond.methodLink own index ⟨"java/lang/Float", "floatToRawIntBits", "(F)I"⟩ ∈ GL) (w2 : Cond.native ⟨"java/lang/Float", "floatToRawIntBits", "(F)I"⟩ ∈ GL) (w3 : Cond.static ⟨"java/lang/Float", "floatToRawIntBits", "(F)I"⟩ ∈ GL) (w4 : Cond.initialized "java/lang/Float" ∈ GL) (hf : 1 ≤ R.frames) (hlo : 59 ≤ R.locals) (hst : (st.map fun v => v.category).sum ≤ 8) (hd : decode cc pc = .ok (.invokestatic index, 3)) (kk : V p l e R s m args below meth c nL G cells slots Q (pc + 3) L (.int b.toInt32 :: st) M) : V p l e R s m args below meth c nL G cells slots Q pc L (.float b :: st) M :=
  fun ls H locs hl hP hS => vn_f2i hC.1 hC.2.1 (hC.2.2.1.trans hl.1.symm) hC.2.2.2.1 (hC.2.2.2.2.1 _ w1) (hC.2.2.2.2.1 _ w2) (hC.2.2.2.2.1 _ w3) (hC.2.2.2.2.1 _ w4) hf (by omega) hd (kk ls H locs hl hP hS)
theorem V_fconst0 (hC : Cx p s m args c cc own nL G) (hd : decode cc pc = .ok (.fconst 0, 1)) (kk : V p l e R s m args below meth c nL G cells slots Q (pc + 1) L (.float FP.fconst0 :: st) M) : V p l e R s m args below meth c nL G cells slots Q pc L st M := fun ls H locs hl hP hS => lv_fconst0 hC.1 hC.2.1 hd (kk ls H locs hl hP hS)
theorem V_fconst1 (hC : Cx p s m args c cc own nL G) (hd : decode cc pc = .ok (.fconst 1, 1)) (kk : V p l e R s m args below meth c nL G cells slots Q (pc + 1) L (.float FP.fconst1 :: st) M) : V p l e R s m args below meth c nL G cells slots Q pc L st M := fun ls H locs hl hP hS => lv_fconst1 hC.1 hC.2.1 hd (kk ls H locs hl hP hS)
theorem V_fconst2 (hC : Cx p s m args c cc own nL G) (hd : decode cc pc = .ok (.fconst 2, 1)) (kk : V p l e R s m args below meth c nL G cells slots Q (pc + 1) L (.float FP.fconst2 :: st) M) : V p l e R s m args below meth c nL G cells slots Q pc L st M := fun ls H locs hl hP hS => lv_fconst2 hC.1 hC.2.1 hd (kk ls H locs hl hP hS)
theorem V_ldcf (hC : Cx p s m args c cc own nL G) {i : Nat} (v : UInt32) (hd : decode cc pc = .ok (.ldc i, 2)) (hw : Cond.constantFloat own i v ∈ GL) (kk : V p l e R s m args below meth c nL G cells slots Q (pc + 2) L (.float v :: st) M) : V p l e R s m args below meth c nL G cells slots Q pc L st M := fun ls H locs hl hP hS => lv_ldcf hC.1 hC.2.1 hC.2.2.2.1 (hC.2.2.2.2.1 _ hw) hd (kk ls H locs hl hP hS)
theorem sd_ldcwF {T : State} {locs : List Loc} (X : Stand p l e R s m args below meth c T locs cells slots) (hexec : p.tables.exec = Jvm.exec) {own : String} {index : Nat} {b : UInt32} (hown : s.vm.findClass own = some m.cls)
    (hconst : (Cond.constantFloat own index b).before args s = true) {g : JFrame} (hg : g.method = m) (hdg : decode c.code g.pc = .ok (.ldc_w index, 3)) :
    ∀ target, Steps p.tables e below (T.setTop { g with pc := g.pc + 3, stack := .float b :: g.stack }) target → Steps p.tables e below (T.setTop g) target := by
  obtain ⟨k, cf, hk, hcf, hcp⟩ := Cond.constantFloat_spec hown hconst
  obtain ⟨k', hk', he⟩ := X.warmed.alike.2.2 _ _ hk
  intro target hrest
  subst hg
  jvm_step X.here [hexec, hdg, ldc_w.wp_float (s := T) (f := g) X.here.top hk' (by rw [he]; exact hcf) hcp]
  exact hrest
theorem V_ldcwf (hC : Cx p s m args c cc own nL G) {i : Nat} (v : UInt32) (hd : decode cc pc = .ok (.ldc_w i, 3)) (hw : Cond.constantFloat own i v ∈ GL) (kk : V p l e R s m args below meth c nL G cells slots Q (pc + 3) L (.float v :: st) M) : V p l e R s m args below meth c nL G cells slots Q pc L st M := by
  intro ls H locs hl hP hS T hT X
  obtain ⟨t, a, b⟩ := kk ls H locs hl hP hS T hT X
  exact ⟨t, sd_ldcwF X hC.1 hC.2.2.2.1 (hC.2.2.2.2.1 _ hw) (g := F0 m pc ls st) rfl (by rw [hC.2.1]; exact hd) t a, b⟩
theorem V_mmin (hC : Cx p s m args c cc own nL G) {index : Nat} {x y : Int32} (w1 : Cond.methodLink own index Lib.Math.min.name ∈ GL) (w2 : Cond.static Lib.Math.min.name ∈ GL) (w3 : Cond.initialized "java/lang/Math" ∈ GL) (w4 : Cond.code Lib.Math.min.name Lib.Math.min.code 2 (some .int) ∈ GL) (hf : 1 ≤ R.frames) (hlo : 59 ≤ R.locals) (hst : (st.map fun v => v.category).sum ≤ 8) (hf2 : cells ≤ R.cells ∧ slots ≤ R.slots) (hd : decode cc pc = .ok (.invokestatic index, 3)) (kk : V p l e R s m args below meth c nL G cells slots Q (pc + 3) L (.int (imin x y) :: st) M) : V p l e R s m args below meth c nL G cells slots Q pc L (.int y :: .int x :: st) M :=
  fun ls H locs hl hP hS => va_mmin hC.1 hC.2.1 (hC.2.2.1.trans hl.1.symm) hC.2.2.2.1 (hC.2.2.2.2.1 _ w1) (hC.2.2.2.2.1 _ w2) (hC.2.2.2.2.1 _ w3) (hC.2.2.2.2.1 _ w4) hf (by omega) hf2.1 hf2.2 hd (kk ls H locs hl hP hS)
theorem V_mmax (hC : Cx p s m args c cc own nL G) {index : Nat} {x y : Int32} (w1 : Cond.methodLink own index Lib.Math.max.name ∈ GL) (w2 : Cond.static Lib.Math.max.name ∈ GL) (w3 : Cond.initialized "java/lang/Math" ∈ GL) (w4 : Cond.code Lib.Math.max.name Lib.Math.max.code 2 (some .int) ∈ GL) (hf : 1 ≤ R.frames) (hlo : 59 ≤ R.locals) (hst : (st.map fun v => v.category).sum ≤ 8) (hf2 : cells ≤ R.cells ∧ slots ≤ R.slots) (hd : decode cc pc = .ok (.invokestatic index, 3)) (kk : V p l e R s m args below meth c nL G cells slots Q (pc + 3) L (.int (imax x y) :: st) M) : V p l e R s m args below meth c nL G cells slots Q pc L (.int y :: .int x :: st) M :=
  fun ls H locs hl hP hS => va_mmax hC.1 hC.2.1 (hC.2.2.1.trans hl.1.symm) hC.2.2.2.1 (hC.2.2.2.2.1 _ w1) (hC.2.2.2.2.1 _ w2) (hC.2.2.2.2.1 _ w3) (hC.2.2.2.2.1 _ w4) hf (by omega) hf2.1 hf2.2 hd (kk ls H locs hl hP hS)
end VR2
/-! methods of a class some of whose methods are run by entries: those that are none of them -/
theorem Met_ofWF {l : Launch} {y : MethodName} {ws ws' : List Cond} {rm : Room} {Pc : Array Value → State → Prop} {Qc : Array Value → State → Outcome → State → Prop} {mc ms : Nat} {free : Addr → Prop} {cc : ByteArray} {maxL : Nat} {ret : Option FieldType}
    (hy : plainFor y = true) (hw : ws = Cond.code y cc maxL ret :: ws')
    (body : ∀ p e s m args below meth c s₁, BodyLoose p l y (headSpec ws rm) cc maxL ret e s m args below meth c s₁ → c.maxLocals = maxL → Pc args s →
      W p l e (headSpec ws rm).room s m args below meth c s.heap [] 0 0 (MQ below Qc args s mc ms free) (entryFrame m args maxL)) : Met l y ws rm Pc Qc mc ms free := by
  refine MetFree.of_bodySF (code := cc) (maxLocals := maxL) (ret := ret) hy ?_ ?_
  · intro args s m h hn
    obtain ⟨meth, c, h1, h2, h3, h4, h5, h6, -, -⟩ := Cond.code_spec hn (atoms_spec (ws := ws) h _ (by rw [hw]; exact List.mem_cons_self))
    exact ⟨meth, c, h1, h2, h3, h4, h5, h6⟩
  · intro p e s m args below meth c s₁ B hml hP _
    have hh0 : s₁.heap = s.heap := by rw [B.state]; rfl
    obtain ⟨t, a1, o, b1, b2, b3⟩ := body p e s m args below meth c s₁ B hml hP s₁ hh0 (Stand.of_body B)
    exact ⟨t, o, a1, b1, b2, ⟨b3.1, b3.2⟩⟩
theorem Met_ofF {l : Launch} {y : MethodName} {cc : ByteArray} {maxL a : Nat} {ret : Option FieldType} {own : String} {G : Geo} (hG : gD G) {av : List Value} {M M' : Mem} {rv : Option Value} {L : List (Nat × Value)} (hy : plainFor y = true) (hown : y.cls = own) (hav : (lg_sl av).length ≤ maxL) (hL : lv_args 0 av = L)
    (body : ∀ (p : Program) (e : Env) (s : State) (m : MethodId) (args : Array Value) (below : List Frame) (meth : Method) (c : Code), Cx p s m args c cc own maxL G → meth.sig.returnType = ret → meth.locks = false → V p l e (rmk a) s m args below meth c maxL G 0 0 (MQ below (gQ G rv M') args s 0 0 (gA G)) 0 L [] M) :
    Met l y (.code y cc maxL ret :: GL) (rmk a) (gP G av M) (gQ G rv M') 0 0 (gA G) := by
  refine Met_ofWF (cc := cc) (maxL := maxL) (ret := ret) hy rfl ?_
  intro p e s m args below meth c s₁ B hml hv
  obtain ⟨rfl, hP, hK, hN⟩ := hv
  have hts := atoms_spec (ws := .code y cc maxL ret :: GL) B.pre
  have hfc : s.vm.findClass own = some m.cls := by rw [← hown]; exact findClass_of_methodNamed B.named
  have hS : va_S (gA G) s.heap s.heap [] := va_S.rf
  have hl := lv_entry av (n := maxL) hav
  rw [hL] at hl
  rw [lg_entry_eq]
  exact body p e s m av.toArray below meth c ⟨B.exec, B.bytes, hml, hfc, fun w hw => hts w (List.mem_cons_of_mem _ hw), hK, hN, hG⟩ B.returns B.notSynchronized _ _ _ hl hP hS
