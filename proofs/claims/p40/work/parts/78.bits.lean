/-! ===== useBits ===== -/
section UU
theorem cmp_nought {x : UInt32} {c : Nat} {q : Int} (h : NF x c q) : Jvm.FP.fcmp x Jvm.FP.fconst0 = some .gt := by
  obtain ⟨a, b, d, e, f⟩ := h
  have hc : Jvm.FP.fcmp x Jvm.FP.fconst0 = Jvm.FP.Core.order (Jvm.FP.Core.val32 x) (Jvm.FP.Core.val32 Jvm.FP.fconst0) := rfl
  rw [hc, a, val_zero]
  show some (compare ((c * 2 ^ (q - min q (-149)).toNat : Nat) : Int) ((0 * 2 ^ ((-149 : Int) - min q (-149)).toNat : Nat) : Int)) = some .gt
  have h2 : 0 < c * 2 ^ (q - min q (-149)).toNat := Nat.mul_pos (by omega) (Nat.two_pow_pos _)
  generalize c * 2 ^ (q - min q (-149)).toNat = m at h2
  rw [Nat.zero_mul, Jvm.FP.Core.compare_ite, if_neg (by omega), if_neg (by omega)]
theorem nI_or {a b : Nat} (ha : a < 2 ^ 32) (hb : b < 2 ^ 32) : nI a ||| nI b = nI (a ||| b) := by
  apply Int32.toBitVec_inj.mp
  apply BitVec.eq_of_toNat_eq
  rw [Int32.toBitVec_or, BitVec.toNat_or, pk_tn ha, pk_tn hb, pk_tn (Nat.or_lt_two_pow ha hb)]
theorem shl_23 : ∀ E, E < 256 → nI E <<< ((23 : Int32) &&& 31) = nI (E * 8388608) := by decide +kernel
theorem put_bits {E t : Nat} (hE : E < 256) (ht : t < 8388608) : (nI E <<< ((23 : Int32) &&& 31)) ||| nI t = nI (E * 8388608 + t) := by
  rw [shl_23 E hE, nI_or (by omega) (by omega)]
  refine congrArg nI ?_
  have := Nat.two_pow_add_eq_or_of_lt (i := 23) (b := t) (by omega) E
  rw [Nat.mul_comm E 8388608]
  exact this.symm
theorem fb_69 {x : UInt32} {c E : Nat} (h : NF x c (-23)) (hE : E < 256) : B_X8_floatBits_69 x (nI E) = some (nI (E * 8388608 + (c - 8388608))) := by
  have hb := h.2.1
  have hd := h.2.2.1
  obtain ⟨n1, n2, n3⟩ := mul_f2i (t := c - 8388608) (by omega) (sub_val h)
  have n4 := n3 (nI (c - 8388608)) (nI_toInt (by omega))
  unfold B_X8_floatBits_69
  rw [if_pos n1, if_pos n2, n4, put_bits hE (by omega)]
theorem cv_lt : ∀ o, Op.cmpValue (some .lt) o = mI := fun _ => rfl
theorem cv_eq : ∀ o, Op.cmpValue (some .eq) o = nI 0 := fun _ => rfl
theorem cv_gt : ∀ o, Op.cmpValue (some .gt) o = nI 1 := fun _ => rfl
theorem nI_sc (i : Nat) : nI i + (1 : Int32) = nI (i + 1) := nI_add i 1
/-- the second loop: up to one -/
theorem fb_42 {x : UInt32} {c E : Nat} {q q0 : Int} (h : NF x c q) (h1 : q ≤ -23) (h2 : -57 ≤ q) (h3 : (E : Int) + q = 127 + q0) (h4 : -57 ≤ q0) (h5 : q0 ≤ 11) : B_X8_floatBits_42 x (nI E) = some (nI ((q0 + 150).toNat * 8388608 + (c - 8388608))) := by
  refine loopI (fun n s => L_X8_floatBits_44 n s.1 s.2.1 s.2.2) (fun i s => ∃ x q, ∃ E : Nat, s = (x, nI E, nI i) ∧ NF x c q ∧ q ≤ -23 ∧ -57 + (i : Int) ≤ q ∧ (E : Int) + q = 127 + q0) (fun r => r = some (nI ((q0 + 150).toNat * 8388608 + (c - 8388608)))) 60 (fun n i s hi hI => ?_) (fun n s hI => ?_) FU (FU_lt (by decide)) (x, nI E, (0 : Int32)) ⟨x, q, E, rfl, h, h1, by omega, h3⟩
  · obtain ⟨x, q, E, rfl, a1, a2, a3, a4⟩ := hI
    dsimp only
    rw [L_X8_floatBits_44, if_neg (show ¬ (64 : Int32) ≤ nI i by rw [lit_64, nI_leI (by omega) (by omega)]; omega)]
    by_cases hq : q < -23
    · have hc := (cmp_pow a1 val_one).1 hq
      have hn := nf_dbl a1 (by omega)
      right
      rw [hc, if_neg (by rw [cv_lt]; decide), if_pos hn.nn]
      refine ⟨(Jvm.FP.fmul x Jvm.FP.fconst2, nI E + ((-1) : Int32), nI i + 1), rfl, Jvm.FP.fmul x Jvm.FP.fconst2, q + 1, E - 1, ?_, hn, by omega, by omega, by omega⟩
      rw [show nI E + ((-1) : Int32) = nI (E - 1) from (Int32.sub_eq_add_neg (nI E) 1).symm.trans (pk_sub (b := 1) (by omega)), nI_sc]
    · left
      have hq2 : q = -23 := by omega
      subst hq2
      have hE : E = (q0 + 150).toNat := by omega
      have he : B_X8_floatBits_69 x (nI E) = some (nI ((q0 + 150).toNat * 8388608 + (c - 8388608))) := by
        rw [fb_69 a1 (by omega), hE]
      rcases (cmp_pow a1 val_one).2 (Int.le_refl _) with hc | hc
      · rw [hc, if_pos (by rw [cv_eq]; decide), he]
      · rw [hc, if_pos (by rw [cv_gt]; decide), he]
  · obtain ⟨x, q, E, rfl, a1, a2, a3, a4⟩ := hI
    omega
/-- the first loop: below two -/
theorem fb_15 {x : UInt32} {c : Nat} {q0 : Int} (h : NF x c q0) (h4 : -57 ≤ q0) (h5 : q0 ≤ 11) : L_X8_floatBits_15 FU x (127 : Int32) (0 : Int32) = some (nI ((q0 + 150).toNat * 8388608 + (c - 8388608))) := by
  refine loopI (fun n s => L_X8_floatBits_15 n s.1 s.2.1 s.2.2) (fun i s => ∃ x q, ∃ E : Nat, s = (x, nI E, nI i) ∧ NF x c q ∧ (q0 = q + (i : Int)) ∧ (i = 0 ∨ -23 ≤ q) ∧ (E : Int) + q = 127 + q0) (fun r => r = some (nI ((q0 + 150).toNat * 8388608 + (c - 8388608)))) 60 (fun n i s hi hI => ?_) (fun n s hI => ?_) FU (FU_lt (by decide)) (x, nI 127, (0 : Int32)) ⟨x, q0, 127, rfl, h, by omega, Or.inl rfl, by omega⟩
  · obtain ⟨x, q, E, rfl, a1, a2, a3, a4⟩ := hI
    dsimp only
    rw [L_X8_floatBits_15, if_neg (show ¬ (64 : Int32) ≤ nI i by rw [lit_64, nI_leI (by omega) (by omega)]; omega)]
    by_cases hq : q < -22
    · left
      have hc := (cmp_pow a1 val_two).1 hq
      rw [hc, if_pos (by rw [cv_lt]; decide)]
      exact fb_42 a1 (by omega) (by omega) a4 h4 h5
    · right
      have hn := nf_half a1 (by omega)
      have hno : ¬ Op.cmpValue (Jvm.FP.fcmp x Jvm.FP.fconst2) .l < 0 := by
        rcases (cmp_pow a1 val_two).2 (by omega) with hc | hc
        · rw [hc, cv_eq]; decide
        · rw [hc, cv_gt]; decide
      rw [if_neg hno, if_pos hn.nn]
      refine ⟨(Jvm.FP.fmul x 1056964608, nI E + 1, nI i + 1), rfl, Jvm.FP.fmul x 1056964608, q - 1, E + 1, ?_, hn, by omega, by omega, by omega⟩
      rw [nI_sc, nI_sc]
  · obtain ⟨x, q, E, rfl, a1, a2, a3, a4⟩ := hI
    omega
theorem u_i {x : UInt32} {n : Nat} (h : x.toNat = n) : x.toInt32 = nI n := by
  subst h
  exact congrArg UInt32.toInt32 (UInt32.ofNat_toNat (x := x)).symm
theorem fb_nf {x : UInt32} {c : Nat} {q : Int} (h : NF x c q) (h4 : -57 ≤ q) (h5 : q ≤ 11) : f_X8_floatBits x = some x.toInt32 := by
  unfold f_X8_floatBits
  rw [cmp_nought h, if_pos (by rw [cv_gt]; decide), fb_15 h h4 h5, u_i (nf_bits h), show (q + 150).toNat = (q + 149).toNat + 1 by omega]
theorem i2f_0 : Jvm.FP.i2f (nI 0) = 0 := by decide +kernel
theorem fb_0 : f_X8_floatBits 0 = some (nI 0) := by
  unfold f_X8_floatBits
  rw [show Jvm.FP.fcmp 0 Jvm.FP.fconst0 = some .eq by decide +kernel, if_neg (by rw [cv_eq]; decide)] <;> rfl
theorem div_0 {y : UInt32} {d : Nat} {r : Int} (hy : Jvm.FP.Core.val32 y = .fin false d r) (h3 : 8388608 ≤ d) : Jvm.FP.fdiv 0 y = 0 := by
  have h0 : Jvm.FP.Core.val32 (0 : UInt32) = .fin false 0 (-149) := val_zero
  have hv : Jvm.FP.Core.val32 (Jvm.FP.fdiv 0 y) = .fin false 0 (-149) := by
    show Jvm.FP.Core.val32 (Jvm.FP.Core.fdiv 0 y) = _
    rw [Jvm.FP.Core.val32_fdiv, h0, hy]
    show (if d = 0 then _ else _) = _
    rw [if_neg (by omega)]
    rfl
  have e : Jvm.FP.Core.of32 (Jvm.FP.Core.val32 (Jvm.FP.fdiv 0 y)) = Jvm.FP.fdiv 0 y := Jvm.FP.Core.of32_val32 (by rw [hv]; exact fun z => by cases z)
  rw [hv] at e
  rw [← e]
  decide +kernel
theorem bits_of {a b : Nat} (ha : a < 2147483648) (h0 : 0 < b) (hb : b < 2147483648) : nn (FP.fdiv (FP.i2f (nI a)) (FP.i2f (nI b))) = true ∧ f_X8_floatBits (FP.fdiv (FP.i2f (nI a)) (FP.i2f (nI b))) = some (f_Jxf58ca_floatToIntBits_5c35a (FP.fdiv (FP.i2f (nI a)) (FP.i2f (nI b)))) := by
  obtain ⟨d, r, y1, y2, y3, y4, y5⟩ := i2f_nf (nI_toInt hb) h0 hb
  by_cases hz : a = 0
  · subst hz
    rw [i2f_0, div_0 y1 y2]
    exact ⟨by decide +kernel, by rw [fb_0]; decide +kernel⟩
  · obtain ⟨c, q, x1, x2, x3, x4, x5⟩ := i2f_nf (nI_toInt ha) (by omega) ha
    obtain ⟨c', q', z1, z2, z3⟩ := fdiv_nf x1 x2 x3 y1 y2 y3 (by omega) (by omega)
    refine ⟨z1.nn, ?_⟩
    rw [fb_nf z1 (by omega) (by omega)]
    unfold f_Jxf58ca_floatToIntBits_5c35a f_Jxf58ca_isNaN_12338
    have hs := Jvm.FP.Core.fcmp_self (a := FP.fdiv (FP.i2f (nI a)) (FP.i2f (nI b))) (by rw [z1.1]; exact fun z => by cases z)
    have hs2 : Jvm.FP.fcmp (FP.fdiv (FP.i2f (nI a)) (FP.i2f (nI b))) (FP.fdiv (FP.i2f (nI a)) (FP.i2f (nI b))) = some .eq := hs
    rw [hs2, if_pos (show Op.cmpValue (some .eq) .l = 0 from rfl), if_pos rfl]
variable {k : Nat} {M : Mem}
end UU
