/-! ===== floats: halves, doubles, bits ===== -/
section FL
theorem q32 : Jvm.FP.Core.b32.qmin = -149 ∧ Jvm.FP.Core.b32.qmax = 104 ∧ Jvm.FP.Core.b32.p = 24 ∧ Jvm.FP.Core.b32.tails = 8388608 := by decide
/-- a normal positive number -/
def NF (x : UInt32) (c : Nat) (q : Int) : Prop := Jvm.FP.Core.val32 x = .fin false c q ∧ 8388608 ≤ c ∧ c < 16777216 ∧ -149 < q ∧ q < 104
theorem fits_n {c : Nat} {q : Int} (h1 : 8388608 ≤ c) (h2 : c < 16777216) (h3 : -149 < q) (h4 : q ≤ 104) : Jvm.FP.Core.fits Jvm.FP.Core.b32 (.fin false c q) := by
  obtain ⟨a, b, p, t⟩ := q32
  show c < 2 ^ Jvm.FP.Core.b32.p ∧ Jvm.FP.Core.b32.qmin ≤ q ∧ q ≤ Jvm.FP.Core.b32.qmax ∧ (q = Jvm.FP.Core.b32.qmin ∨ Jvm.FP.Core.b32.tails ≤ c)
  rw [a, b, p, t]
  exact ⟨h2, by omega, h4, Or.inr h1⟩
theorem val_half : Jvm.FP.Core.val32 (1056964608 : UInt32) = .fin false 8388608 (-24) := by decide +kernel
theorem val_two : Jvm.FP.Core.val32 Jvm.FP.fconst2 = .fin false 8388608 (-22) := by decide +kernel
theorem val_one : Jvm.FP.Core.val32 Jvm.FP.fconst1 = .fin false 8388608 (-23) := by decide +kernel
theorem val_zero : Jvm.FP.Core.val32 Jvm.FP.fconst0 = .fin false 0 (-149) := by decide +kernel
theorem val_223 : Jvm.FP.Core.val32 (1258291200 : UInt32) = .fin false 8388608 0 := by decide +kernel
theorem rr_shift {c : Nat} {q q' : Int} (h1 : 8388608 ≤ c) (h2 : c < 16777216) (h3 : -149 < q) (h4 : q ≤ 104) (he : q' = q - 23) : Jvm.FP.Core.roundRatio Jvm.FP.Core.b32 false (c * 8388608) 1 q' = .fin false c q := by
  refine Jvm.FP.Core.roundRatio_exact Jvm.FP.Core.good_b32 (by decide) (fits_n h1 h2 h3 h4) ?_
  subst he
  rw [show (q - 23 - q).toNat = 0 by omega, show (q - (q - 23)).toNat = 23 by omega, Nat.pow_zero, Nat.mul_one, Nat.mul_one]
theorem nf_half {x : UInt32} {c : Nat} {q : Int} (h : NF x c q) (hq : -149 < q - 1) : NF (Jvm.FP.fmul x 1056964608) c (q - 1) := by
  obtain ⟨a, b, d, e, f⟩ := h
  refine ⟨?_, b, d, hq, by omega⟩
  show Jvm.FP.Core.val32 (Jvm.FP.Core.fmul x 1056964608) = _
  rw [Jvm.FP.Core.val32_fmul, a, val_half]
  exact rr_shift b d hq (by omega) (by omega)
theorem nf_dbl {x : UInt32} {c : Nat} {q : Int} (h : NF x c q) (hq : q + 1 < 104) : NF (Jvm.FP.fmul x Jvm.FP.fconst2) c (q + 1) := by
  obtain ⟨a, b, d, e, f⟩ := h
  refine ⟨?_, b, d, by omega, hq⟩
  show Jvm.FP.Core.val32 (Jvm.FP.Core.fmul x Jvm.FP.fconst2) = _
  rw [Jvm.FP.Core.val32_fmul, a, val_two]
  exact rr_shift b d (by omega) (by omega) (by omega)
theorem nn_of {x : UInt32} (h : Jvm.FP.Core.val32 x ≠ .nan) : nn x = true := by
  have h2 := (Jvm.FP.Core.ne_nan32 x).mp h
  unfold nn
  refine decide_eq_true ?_
  rw [UInt32.le_iff_toNat_le]
  show (x &&& 0x7fffffff).toNat ≤ 2139095040
  have e : (x &&& 0x7fffffff).toNat = x.toNat % 2 ^ 31 := by
    rw [UInt32.toNat_and]
    exact Nat.and_two_pow_sub_one_eq_mod _ 31
  rw [e]
  exact h2
theorem NF.nn {x : UInt32} {c : Nat} {q : Int} (h : NF x c q) : nn x = true := nn_of (by rw [h.1]; exact fun z => by cases z)
/-- against a power of two -/
theorem cmp_pow {x y : UInt32} {c : Nat} {q r : Int} (h : NF x c q) (hy : Jvm.FP.Core.val32 y = .fin false 8388608 r) : (q < r → Jvm.FP.fcmp x y = some .lt) ∧ (r ≤ q → Jvm.FP.fcmp x y = some .eq ∨ Jvm.FP.fcmp x y = some .gt) := by
  obtain ⟨a, b, d, e, f⟩ := h
  have hc : Jvm.FP.fcmp x y = Jvm.FP.Core.order (Jvm.FP.Core.val32 x) (Jvm.FP.Core.val32 y) := rfl
  rw [hc, a, hy]
  show (_ → some (compare ((c * 2 ^ (q - min q r).toNat : Nat) : Int) ((8388608 * 2 ^ (r - min q r).toNat : Nat) : Int)) = some .lt) ∧ (_ → some (compare ((c * 2 ^ (q - min q r).toNat : Nat) : Int) ((8388608 * 2 ^ (r - min q r).toNat : Nat) : Int)) = some .eq ∨ some (compare ((c * 2 ^ (q - min q r).toNat : Nat) : Int) ((8388608 * 2 ^ (r - min q r).toNat : Nat) : Int)) = some .gt)
  refine ⟨fun hlt => ?_, fun hle => ?_⟩
  · rw [show min q r = q by omega, show (q - q).toNat = 0 by omega]
    obtain ⟨k, hk⟩ : ∃ k, (r - q).toNat = k + 1 := ⟨(r - q).toNat - 1, by omega⟩
    rw [hk, Nat.pow_zero, Nat.mul_one, Nat.pow_succ]
    have := Nat.one_le_two_pow (n := k)
    have h2 : 8388608 * (2 ^ k * 2) ≥ 16777216 := by omega
    generalize 8388608 * (2 ^ k * 2) = m at h2
    rw [Jvm.FP.Core.compare_ite, if_pos (by omega)]
  · rw [show min q r = r by omega, show (r - r).toNat = 0 by omega, Nat.pow_zero, Nat.mul_one]
    have h1 := Nat.one_le_two_pow (n := (q - r).toNat)
    have h2 : 8388608 ≤ c * 2 ^ (q - r).toNat := Nat.le_trans b (Nat.le_mul_of_pos_right c h1)
    generalize c * 2 ^ (q - r).toNat = m at h2
    rw [Jvm.FP.Core.compare_ite, if_neg (by omega)]
    by_cases h3 : (m : Int) = ((8388608 : Nat) : Int)
    · rw [if_pos h3]; exact Or.inl rfl
    · rw [if_neg h3]; exact Or.inr rfl
/-- rounding a quotient of no extreme size gives a normal number -/
theorem rr_norm {A B : Nat} {e : Int} (hA : 0 < A) (hB : 0 < B) (h1 : -149 < Jvm.FP.Core.leading A B + e - 23) (h2 : Jvm.FP.Core.leading A B + e - 22 < 104) : ∃ c q, Jvm.FP.Core.roundRatio Jvm.FP.Core.b32 false A B e = .fin false c q ∧ 8388608 ≤ c ∧ c < 16777216 ∧ (q = Jvm.FP.Core.leading A B + e - 23 ∨ q = Jvm.FP.Core.leading A B + e - 22) := by
  obtain ⟨a, b, p, t⟩ := q32
  have hf := Jvm.FP.Core.roundRatio_fits Jvm.FP.Core.good_b32 false A hB e
  have hq : Jvm.FP.Core.quantum Jvm.FP.Core.b32 A B e = Jvm.FP.Core.leading A B + e - 23 := by
    unfold Jvm.FP.Core.quantum
    rw [a, p]
    omega
  have hR : Jvm.FP.Core.roundRatio Jvm.FP.Core.b32 false A B e = Jvm.FP.Core.settle Jvm.FP.Core.b32 false (Jvm.FP.Core.nearest (Jvm.FP.Core.unitsNum A e (Jvm.FP.Core.leading A B + e - 23)) (Jvm.FP.Core.unitsDen B e (Jvm.FP.Core.leading A B + e - 23))) (Jvm.FP.Core.leading A B + e - 23) := by
    unfold Jvm.FP.Core.roundRatio Jvm.FP.Core.roundAt
    rw [if_neg (by omega), hq]
  rw [hR] at hf ⊢
  generalize Jvm.FP.Core.nearest (Jvm.FP.Core.unitsNum A e (Jvm.FP.Core.leading A B + e - 23)) (Jvm.FP.Core.unitsDen B e (Jvm.FP.Core.leading A B + e - 23)) = m at hf
  generalize Jvm.FP.Core.leading A B + e = L at h1 h2 hf
  have key : ∀ c q, (q = L - 23 ∨ q = L - 22) → Jvm.FP.Core.bound Jvm.FP.Core.b32 false c q = .fin false c q := fun c q h => by
    unfold Jvm.FP.Core.bound
    rw [b, if_pos (by omega)]
  have fin : ∀ c q, (q = L - 23 ∨ q = L - 22) → Jvm.FP.Core.fits Jvm.FP.Core.b32 (Jvm.FP.Core.bound Jvm.FP.Core.b32 false c q) → ∃ c' q', Jvm.FP.Core.bound Jvm.FP.Core.b32 false c q = .fin false c' q' ∧ 8388608 ≤ c' ∧ c' < 16777216 ∧ (q' = L - 23 ∨ q' = L - 22) := fun c q h hf => by
    rw [key c q h] at hf ⊢
    obtain ⟨f1, f2, f3, f4⟩ := hf
    rw [p] at f1
    rw [a, t] at f4
    refine ⟨c, q, rfl, ?_, f1, h⟩
    rcases f4 with f4 | f4
    · omega
    · exact f4
  unfold Jvm.FP.Core.settle at hf ⊢
  by_cases hm : m < 2 ^ Jvm.FP.Core.b32.p
  · rw [if_pos hm] at hf ⊢
    exact fin _ _ (Or.inl rfl) hf
  · rw [if_neg hm] at hf ⊢
    exact fin _ _ (Or.inr (by omega)) hf
theorem sum_one {c : Nat} (hc : 8388608 ≤ c) : Jvm.FP.Core.exactSum (.fin false c (-23)) (.fin true 8388608 (-23)) = .fin false (c - 8388608) (-23) := by
  have hv : Jvm.FP.Core.sumUnits false c (-23) true 8388608 (-23) (min (-23) (-23)) = ((c - 8388608 : Nat) : Int) := by
    show ((c * 2 ^ ((-23 : Int) - min (-23) (-23)).toNat : Nat) : Int) + -((8388608 * 2 ^ ((-23 : Int) - min (-23) (-23)).toNat : Nat) : Int) = _
    rw [show ((-23 : Int) - min (-23) (-23)).toNat = 0 by decide, Nat.pow_zero, Nat.mul_one, Nat.mul_one]
    omega
  show Jvm.FP.Core.Datum.fin (Jvm.FP.Core.sumSign false true (Jvm.FP.Core.sumUnits false c (-23) true 8388608 (-23) (min (-23) (-23)))) (Jvm.FP.Core.sumUnits false c (-23) true 8388608 (-23) (min (-23) (-23))).natAbs (min (-23) (-23)) = _
  rw [hv]
  unfold Jvm.FP.Core.sumSign
  have h1 : (if ((c - 8388608 : Nat) : Int) = 0 then (false && true) else decide (((c - 8388608 : Nat) : Int) < 0)) = false := by
    by_cases h : ((c - 8388608 : Nat) : Int) = 0
    · rw [if_pos h]; rfl
    · rw [if_neg h, decide_eq_false (by omega)]
  rw [h1, Int.natAbs_natCast]
  rfl
theorem sub_val {x : UInt32} {c : Nat} (h : NF x c (-23)) : Jvm.FP.Core.val32 (Jvm.FP.fsub x Jvm.FP.fconst1) = Jvm.FP.Core.roundRatio Jvm.FP.Core.b32 false (c - 8388608) 1 (-23) := by
  show Jvm.FP.Core.val32 (Jvm.FP.Core.fsub x Jvm.FP.fconst1) = _
  rw [Jvm.FP.Core.val32_fsub, h.1, val_one]
  show Jvm.FP.Core.round Jvm.FP.Core.b32 (Jvm.FP.Core.exactSum (.fin false c (-23)) (.fin true 8388608 (-23))) = _
  rw [sum_one h.2.1]
  rfl
/-- a small whole number has a normal form -/
theorem norm_ex {t : Nat} (h0 : 0 < t) (h : t < 8388608) : ∃ k, k ≤ 23 ∧ 8388608 ≤ t * 2 ^ k ∧ t * 2 ^ k < 16777216 := by
  have h1 := Nat.log2_self_le (n := t) (by omega)
  have h2 := Nat.lt_log2_self (n := t)
  have h3 : t.log2 < 23 := (Nat.log2_lt (by omega)).mpr h
  refine ⟨23 - t.log2, by omega, ?_, ?_⟩
  · have := Nat.mul_le_mul_right (2 ^ (23 - t.log2)) h1
    rw [← Nat.pow_add, show t.log2 + (23 - t.log2) = 23 by omega] at this
    exact this
  · have := Nat.mul_lt_mul_of_pos_right h2 (Nat.two_pow_pos (23 - t.log2))
    rw [← Nat.pow_add, show t.log2 + 1 + (23 - t.log2) = 24 by omega] at this
    exact this
theorem prod_223 (c : Nat) (q : Int) : Jvm.FP.Core.round Jvm.FP.Core.b32 (Jvm.FP.Core.exactProduct (.fin false c q) (.fin false 8388608 0)) = Jvm.FP.Core.roundRatio Jvm.FP.Core.b32 false (c * 8388608) 1 (q + 0) := rfl
/-- the fraction, made whole -/
theorem mul_f2i {y : UInt32} {t : Nat} (ht : t < 8388608) (hy : Jvm.FP.Core.val32 y = Jvm.FP.Core.roundRatio Jvm.FP.Core.b32 false t 1 (-23)) : nn y = true ∧ nn (Jvm.FP.fmul y 1258291200) = true ∧ ∀ a : Int32, a.toInt = (t : Int) → Jvm.FP.f2i (Jvm.FP.fmul y 1258291200) = a := by
  have hm : Jvm.FP.Core.val32 (Jvm.FP.fmul y 1258291200) = Jvm.FP.Core.round Jvm.FP.Core.b32 (Jvm.FP.Core.exactProduct (Jvm.FP.Core.val32 y) (.fin false 8388608 0)) := by
    show Jvm.FP.Core.val32 (Jvm.FP.Core.fmul y 1258291200) = _
    rw [Jvm.FP.Core.val32_fmul, val_223]
  by_cases h0 : t = 0
  · subst h0
    have e : Jvm.FP.Core.val32 y = .fin false 0 Jvm.FP.Core.b32.qmin := hy
    rw [e] at hm
    have hm2 : Jvm.FP.Core.val32 (Jvm.FP.fmul y 1258291200) = .fin false 0 Jvm.FP.Core.b32.qmin := hm
    refine ⟨nn_of (by rw [e]; exact fun z => by cases z), nn_of (by rw [hm2]; exact fun z => by cases z), fun a ha => ?_⟩
    refine Jvm.FP.Core.f2i_int ?_
    show Jvm.FP.Core.Whole a.toInt (Jvm.FP.Core.val32 (Jvm.FP.fmul y 1258291200))
    rw [hm2, ha]
    show (((0 * 2 ^ Jvm.FP.Core.b32.qmin.toNat : Nat) : Int)) = ((0 : Nat) : Int) * _
    simp
  · obtain ⟨k, k1, k2, k3⟩ := norm_ex (by omega) ht
    have e : Jvm.FP.Core.val32 y = .fin false (t * 2 ^ k) (-23 - (k : Int)) := by
      rw [hy]
      refine Jvm.FP.Core.roundRatio_exact Jvm.FP.Core.good_b32 (by decide) (fits_n k2 k3 (by omega) (by omega)) ?_
      rw [show ((-23 : Int) - (-23 - (k : Int))).toNat = k by omega, show ((-23 - (k : Int)) - (-23 : Int)).toNat = 0 by omega, Nat.pow_zero, Nat.mul_one, Nat.mul_one]
    rw [e, prod_223, rr_shift (q := -(k : Int)) k2 k3 (by omega) (by omega) (by omega)] at hm
    refine ⟨nn_of (by rw [e]; exact fun z => by cases z), nn_of (by rw [hm]; exact fun z => by cases z), fun a ha => ?_⟩
    refine Jvm.FP.Core.f2i_int ?_
    show Jvm.FP.Core.Whole a.toInt (Jvm.FP.Core.val32 (Jvm.FP.fmul y 1258291200))
    rw [hm, ha]
    show (((t * 2 ^ k * 2 ^ (-(k : Int)).toNat : Nat) : Int)) = (t : Int) * ((2 ^ (-(-(k : Int))).toNat : Nat) : Int)
    rw [show (-(k : Int)).toNat = 0 by omega, show (-(-(k : Int))).toNat = k by omega, Nat.pow_zero, Nat.mul_one, Int.natCast_mul]
theorem lead_b (A B : Nat) : (A.log2 : Int) - (B.log2 : Int) - 1 ≤ Jvm.FP.Core.leading A B ∧ Jvm.FP.Core.leading A B ≤ (A.log2 : Int) - (B.log2 : Int) := by
  unfold Jvm.FP.Core.leading
  dsimp only
  split
  · exact ⟨by omega, Int.le_refl _⟩
  · exact ⟨Int.le_refl _, by omega⟩
theorem log_n {c : Nat} (h1 : 8388608 ≤ c) (h2 : c < 16777216) : c.log2 = 23 := by
  have a1 : c.log2 < 24 := (Nat.log2_lt (by omega)).mpr h2
  have a2 : ¬ c.log2 < 23 := fun z => by
    have := (Nat.log2_lt (n := c) (k := 23) (by omega)).mp z
    omega
  omega
theorem i2f_nf {a : Int32} {h : Nat} (ha : a.toInt = (h : Int)) (h0 : 0 < h) (hh : h < 2147483648) : ∃ c q, Jvm.FP.Core.val32 (Jvm.FP.i2f a) = .fin false c q ∧ 8388608 ≤ c ∧ c < 16777216 ∧ -24 ≤ q ∧ q ≤ 9 := by
  have hv : Jvm.FP.Core.val32 (Jvm.FP.i2f a) = Jvm.FP.Core.roundRatio Jvm.FP.Core.b32 false h 1 0 := by
    show Jvm.FP.Core.val32 (Jvm.FP.Core.i2f a) = _
    rw [Jvm.FP.Core.val32_i2f, ha]
    show Jvm.FP.Core.roundRatio Jvm.FP.Core.b32 (decide ((h : Int) < 0)) (h : Int).natAbs 1 0 = _
    rw [decide_eq_false (by omega), Int.natAbs_natCast]
  obtain ⟨l1, l2⟩ := lead_b h 1
  have e1 : Nat.log2 1 = 0 := by decide
  have l3 : h.log2 < 31 := (Nat.log2_lt (by omega)).mpr hh
  rw [e1] at l1 l2
  obtain ⟨c, q, r1, r2, r3, r4⟩ := rr_norm (e := 0) h0 (B := 1) (by decide) (by omega) (by omega)
  exact ⟨c, q, hv.trans r1, r2, r3, by omega, by omega⟩
theorem fdiv_nf {x y : UInt32} {c d : Nat} {q r : Int} (hx : Jvm.FP.Core.val32 x = .fin false c q) (h1 : 8388608 ≤ c) (h2 : c < 16777216) (hy : Jvm.FP.Core.val32 y = .fin false d r) (h3 : 8388608 ≤ d) (h4 : d < 16777216) (b1 : -40 ≤ q - r) (b2 : q - r ≤ 40) : ∃ c' q', NF (Jvm.FP.fdiv x y) c' q' ∧ q - r - 24 ≤ q' ∧ q' ≤ q - r - 22 := by
  have hv : Jvm.FP.Core.val32 (Jvm.FP.fdiv x y) = Jvm.FP.Core.roundRatio Jvm.FP.Core.b32 false c d (q - r) := by
    show Jvm.FP.Core.val32 (Jvm.FP.Core.fdiv x y) = _
    rw [Jvm.FP.Core.val32_fdiv, hx, hy]
    show (if d = 0 then _ else _) = _
    rw [if_neg (by omega)]
    rfl
  obtain ⟨l1, l2⟩ := lead_b c d
  rw [log_n h1 h2, log_n h3 h4] at l1 l2
  obtain ⟨c', q', r1, r2, r3, r4⟩ := rr_norm (e := q - r) (A := c) (B := d) (by omega) (by omega) (by omega) (by omega)
  exact ⟨c', q', ⟨hv.trans r1, r2, r3, by omega, by omega⟩, by omega, by omega⟩
theorem nf_bits {x : UInt32} {c : Nat} {q : Int} (h : NF x c q) : x.toNat = ((q + 149).toNat + 1) * 8388608 + (c - 8388608) := by
  obtain ⟨a, b, p, t⟩ := q32
  obtain ⟨h0, h1, h2, h3, h4⟩ := h
  have e : Jvm.FP.Core.of32 (.fin false c q) = x := by
    rw [← h0]
    exact Jvm.FP.Core.of32_val32 (by rw [h0]; exact fun z => by cases z)
  have e2 : Jvm.FP.Core.encode Jvm.FP.Core.b32 (.fin false c q) = ((q + 149).toNat + 1) * 8388608 + (c - 8388608) := by
    show (if c < Jvm.FP.Core.b32.tails then Jvm.FP.Core.assemble Jvm.FP.Core.b32 false 0 c else Jvm.FP.Core.assemble Jvm.FP.Core.b32 false ((q - Jvm.FP.Core.b32.qmin).toNat + 1) (c - Jvm.FP.Core.b32.tails)) = _
    unfold Jvm.FP.Core.assemble
    rw [t, a, if_neg (by omega), show q - -149 = q + 149 by omega]
    show (0 * Jvm.FP.Core.b32.exps + _) * 8388608 + _ = _
    rw [Nat.zero_mul, Nat.zero_add]
  rw [← e]
  show (UInt32.ofNat (Jvm.FP.Core.encode Jvm.FP.Core.b32 (.fin false c q))).toNat = _
  rw [UInt32.toNat_ofNat', e2]
  exact Nat.mod_eq_of_lt (by omega)
end FL
