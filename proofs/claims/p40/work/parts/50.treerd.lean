/-! ===== the tree is read: children, depth, how many below ===== -/
theorem cnt_del {f : Nat → Bool} {a : Nat} : ∀ {n : Nat}, a < n → cntN f n = cntN (fun s => f s && !decide (s = a)) n + (f a).toNat
  | 0, h => absurd h (Nat.not_lt_zero _)
  | n + 1, h => by
    rw [cntN_s, cntN_s]
    by_cases ha : a = n
    · subst ha
      rw [decide_eq_true rfl, Bool.not_true, Bool.and_false, cntN_c (p := fun s => f s && !decide (s = a)) (q := f) (fun k hk => by rw [decide_eq_false (show ¬ k = a by omega), Bool.not_false, Bool.and_true])]
      rfl
    · rw [cnt_del (f := f) (a := a) (n := n) (by omega), decide_eq_false (show ¬ n = a from fun e => ha e.symm), Bool.not_false, Bool.and_true]
      omega
theorem cnt_perm {n : Nat} : ∀ {m : Nat} {f : Nat → Bool} {q : Nat → Nat}, (∀ i, i < m → q i < n) → (∀ i j, i < j → j < m → q i ≠ q j) → (∀ s, s < n → f s = true → ∃ i, i < m ∧ q i = s) → cntN (fun i => f (q i)) m = cntN f n
  | 0, f, q, _, _, h3 => by
    refine Eq.symm (cntN_0 fun s hs => ?_)
    cases hf : f s with
    | false => rfl
    | true => obtain ⟨i, hi, -⟩ := h3 s hs hf; exact absurd hi (Nat.not_lt_zero _)
  | m + 1, f, q, h1, h2, h3 => by
    rw [cntN_s, cnt_del (f := f) (a := q m) (n := n) (h1 m (by omega)), ← cnt_perm (m := m) (f := fun s => f s && !decide (s = q m)) (q := q) (fun i hi => h1 i (by omega)) (fun i j a b => h2 i j a (by omega)) (fun s hs hf => by
      rw [Bool.and_eq_true, Bool.not_eq_true', decide_eq_false_iff_not] at hf
      obtain ⟨i, hi, e⟩ := h3 s hs hf.1
      refine ⟨i, ?_, e⟩
      by_cases him : i = m
      · subst him; exact absurd e.symm hf.2
      · omega)]
    congr 1
    refine cntN_c fun k hk => ?_
    rw [decide_eq_false (h2 k m hk (by omega)), Bool.not_false, Bool.and_true]
theorem cnt_at {p : Nat → Bool} {j : Nat} : ∀ {m : Nat}, j < cntN p m → ∃ i, i < m ∧ p i = true ∧ cntN p i = j
  | 0, h => absurd h (Nat.not_lt_zero _)
  | m + 1, h => by
    rw [cntN_s] at h
    by_cases h2 : j < cntN p m
    · obtain ⟨i, a, b, c⟩ := cnt_at h2
      exact ⟨i, by omega, b, c⟩
    · cases hp : p m with
      | false => rw [hp] at h; simp at h; omega
      | true => rw [hp] at h; simp at h; exact ⟨m, by omega, hp, by omega⟩
theorem cnt_mon {p : Nat → Bool} {a : Nat} : ∀ {b : Nat}, a ≤ b → cntN p a ≤ cntN p b
  | 0, h => by rw [show a = 0 by omega]; exact Nat.le_refl _
  | b + 1, h => by
    by_cases hab : a = b + 1
    · rw [hab]; exact Nat.le_refl _
    · have := cnt_mon (p := p) (b := b) (show a ≤ b by omega)
      rw [cntN_s]
      omega
/-- a child's rank among its parent's children; the child of an index -/
def rk (N : Row) (p s : Nat) : Nat := cntN (fun o => isCh N o p && decide (cl (N (42 + o)) < cl (N (42 + s)))) 20
def chAt (N : Row) (p : Nat) (x : Int32) : Nat → Int32
  | 0 => mI
  | s + 1 => if (isCh N s p && decide (nI (rk N p s) = x)) = true then nI s else chAt N p x s
theorem isCh_t {N : Row} {s p : Nat} (h : isCh N s p = true) : s ≠ 0 ∧ us N s = true ∧ pa N s = p := by
  unfold isCh at h
  rw [Bool.and_eq_true, Bool.and_eq_true, decide_eq_true_eq] at h
  exact ⟨by simpa using h.1, h.2.1, h.2.2⟩
theorem place_eq {N : Row} (h : WFt N) {s : Nat} (h0 : 0 < s) (hs : s < 20) (hu : us N s = true) : N (42 + s) = nI (cl (N (42 + s))) ∧ cl (N (42 + s)) < cl (N 1) := h.2.2.2.2.2.2.1 s h0 hs hu
theorem rk_inj {N : Row} (h : WFt N) {p s t : Nat} (hs : s < 20) (ht : t < 20) (h1 : isCh N s p = true) (h2 : isCh N t p = true) (e : rk N p s = rk N p t) : s = t := by
  obtain ⟨a1, a2, a3⟩ := isCh_t h1
  obtain ⟨b1, b2', b3⟩ := isCh_t h2
  have key : ∀ s t, s < 20 → t < 20 → isCh N s p = true → isCh N t p = true → cl (N (42 + s)) < cl (N (42 + t)) → rk N p s < rk N p t := by
    intro s t hs ht h1 h2 hlt
    refine cntN_lt (fun k hk hp => ?_) ⟨s, hs, by simp, by rw [h1, decide_eq_true hlt]; rfl⟩
    rw [Bool.and_eq_true, decide_eq_true_eq] at hp ⊢
    exact ⟨hp.1, by omega⟩
  obtain ⟨p1, p2⟩ := place_eq h (by omega) hs a2
  obtain ⟨q1, q2⟩ := place_eq h (by omega) ht b2'
  by_cases hlt : cl (N (42 + s)) < cl (N (42 + t))
  · have := key s t hs ht h1 h2 hlt; omega
  · by_cases hgt : cl (N (42 + t)) < cl (N (42 + s))
    · have := key t s ht hs h2 h1 hgt; omega
    · refine h.2.2.2.2.2.2.2 s t (by omega) hs a2 (by omega) ht b2' ?_
      rw [p1, q1, show cl (N (42 + s)) = cl (N (42 + t)) by omega]
theorem rk_le (N : Row) (p s : Nat) : rk N p s ≤ 20 := cntN_le _ _
theorem chAt_no {N : Row} {p : Nat} {x : Int32} : ∀ n, (∀ s, s < n → isCh N s p = true → nI (rk N p s) ≠ x) → chAt N p x n = mI
  | 0, _ => rfl
  | n + 1, h => by
    rw [chAt, if_neg (fun z => by
      rw [Bool.and_eq_true, decide_eq_true_eq] at z
      exact h n (by omega) z.1 z.2)]
    exact chAt_no n (fun s hs => h s (by omega))
theorem chAt_yes {N : Row} (h : WFt N) {p : Nat} {x : Int32} {s : Nat} (hc : isCh N s p = true) (hx : nI (rk N p s) = x) : ∀ n, s < n → n ≤ 20 → chAt N p x n = nI s
  | 0, hs, _ => absurd hs (Nat.not_lt_zero _)
  | n + 1, hs, hn => by
    rw [chAt]
    by_cases hsn : s = n
    · subst hsn
      rw [if_pos (by rw [hc, decide_eq_true hx]; rfl)]
    · rw [if_neg (fun z => by
        rw [Bool.and_eq_true, decide_eq_true_eq] at z
        have e := z.2.trans hx.symm
        have l1 := rk_le N p n
        have l2 := rk_le N p s
        rw [nI_eq (by omega) (by omega)] at e
        exact hsn (rk_inj h (by omega) (by omega) z.1 hc e).symm)]
      exact chAt_yes h hc hx n (by omega) (by omega)
section TR
variable {M : Mem} {g : Nat} {N : Row}
theorem c_parentOf (ht : RDt (M.1 g) N) (hN : WFt N) {s : Nat} (hs : s < 20) (hu : us N s = true) : f_X7_parentOf g (nI s) M = some (N (22 + s)) := by
  unfold f_X7_parentOf
  rw [c_hasN ht hN hs, hu]
  simp (disch := omega) only [↓ite_b2r, ↓ite_nb2r, ↓lit_m1, ↓lit_m2, lit_0, lit_1, lit_2, lit_3, lit_4, lit_5, lit_6, lit_7, lit_8, lit_9, lit_10, lit_11, lit_12, lit_13, lit_14, lit_15, lit_16, lit_17, lit_18, lit_19, lit_20, lit_21, lit_22, lit_23, lit_24, lit_25, lit_26, lit_27, lit_28, lit_29, lit_30, lit_31, lit_32, lit_33, lit_34, lit_35, lit_36, lit_40, lit_41, lit_42, lit_44, lit_48, lit_57, lit_59, lit_62, lit_63, lit_64, lit_82, lit_98, lit_99, lit_100, lit_101, lit_102, lit_103, lit_104, lit_105, lit_106, lit_107, lit_108, lit_109, lit_110, lit_111, lit_112, lit_113, lit_119, lit_120, lit_127, lit_128, lit_149, lit_150, lit_202, lit_240, lit_262, lit_894, lit_900, lit_999, lit_1000, lit_2000, lit_2662, lit_2663, lit_2695, lit_2701, lit_2702, lit_3602, lit_10806, nI_add, pk_mul, cl_nI, inb_nI, nI_leI, nI_ltI, nI_eq, nI_eq_m1, m1_eq_nI, nI_eq_m2, div_nI, rem_nI, Option.bind_some, b2_0, b2_1, isb_b2, if_true_, if_false_, ↓reduceIte, reduceCtorEq, not_true_eq_false, not_false_eq_true, bt_hasBit, ult, Nat.add_zero, false_and, true_and, and_true, and_false, Nat.reduceLeDiff, Nat.reduceEqDiff, Nat.reduceLT, Bool.toNat_true, Bool.toNat_false, decide_true, decide_false, Bool.not_true, Bool.not_false, Bool.false_and, Bool.true_and, Bool.and_true, Bool.and_false, Bool.or_false, Bool.true_or, Bool.or_true, Bool.false_or, ht.1 s hs hu]
theorem par_ch (hN : WFt N) {s p : Nat} (hs : s < 20) (hu : us N s = true) (hp : p < 20) : (N (22 + s) = nI p) = (isCh N s p = true) := by
  unfold isCh
  rw [hu]
  by_cases h0 : s = 0
  · subst h0
    rw [show N (22 + 0) = mI from hN.2.2.1]
    simp (disch := omega) only [↓ite_b2r, ↓ite_nb2r, ↓lit_m1, ↓lit_m2, lit_0, lit_1, lit_2, lit_3, lit_4, lit_5, lit_6, lit_7, lit_8, lit_9, lit_10, lit_11, lit_12, lit_13, lit_14, lit_15, lit_16, lit_17, lit_18, lit_19, lit_20, lit_21, lit_22, lit_23, lit_24, lit_25, lit_26, lit_27, lit_28, lit_29, lit_30, lit_31, lit_32, lit_33, lit_34, lit_35, lit_36, lit_40, lit_41, lit_42, lit_44, lit_48, lit_57, lit_59, lit_62, lit_63, lit_64, lit_82, lit_98, lit_99, lit_100, lit_101, lit_102, lit_103, lit_104, lit_105, lit_106, lit_107, lit_108, lit_109, lit_110, lit_111, lit_112, lit_113, lit_119, lit_120, lit_127, lit_128, lit_149, lit_150, lit_202, lit_240, lit_262, lit_894, lit_900, lit_999, lit_1000, lit_2000, lit_2662, lit_2663, lit_2695, lit_2701, lit_2702, lit_3602, lit_10806, nI_add, pk_mul, cl_nI, inb_nI, nI_leI, nI_ltI, nI_eq, nI_eq_m1, m1_eq_nI, nI_eq_m2, div_nI, rem_nI, Option.bind_some, b2_0, b2_1, isb_b2, if_true_, if_false_, ↓reduceIte, reduceCtorEq, not_true_eq_false, not_false_eq_true, bt_hasBit, ult, Nat.add_zero, false_and, true_and, and_true, and_false, Nat.reduceLeDiff, Nat.reduceEqDiff, Nat.reduceLT, Bool.toNat_true, Bool.toNat_false, decide_true, decide_false, Bool.not_true, Bool.not_false, Bool.false_and, Bool.true_and, Bool.and_true, Bool.and_false, Bool.or_false, Bool.true_or, Bool.or_true, Bool.false_or]
    simp
  · obtain ⟨h1, h2, h3⟩ := hN.2.2.2.1 s (by omega) hs hu
    rw [h1, bne_yes h0]
    simp (disch := omega) only [↓ite_b2r, ↓ite_nb2r, ↓lit_m1, ↓lit_m2, lit_0, lit_1, lit_2, lit_3, lit_4, lit_5, lit_6, lit_7, lit_8, lit_9, lit_10, lit_11, lit_12, lit_13, lit_14, lit_15, lit_16, lit_17, lit_18, lit_19, lit_20, lit_21, lit_22, lit_23, lit_24, lit_25, lit_26, lit_27, lit_28, lit_29, lit_30, lit_31, lit_32, lit_33, lit_34, lit_35, lit_36, lit_40, lit_41, lit_42, lit_44, lit_48, lit_57, lit_59, lit_62, lit_63, lit_64, lit_82, lit_98, lit_99, lit_100, lit_101, lit_102, lit_103, lit_104, lit_105, lit_106, lit_107, lit_108, lit_109, lit_110, lit_111, lit_112, lit_113, lit_119, lit_120, lit_127, lit_128, lit_149, lit_150, lit_202, lit_240, lit_262, lit_894, lit_900, lit_999, lit_1000, lit_2000, lit_2662, lit_2663, lit_2695, lit_2701, lit_2702, lit_3602, lit_10806, nI_add, pk_mul, cl_nI, inb_nI, nI_leI, nI_ltI, nI_eq, nI_eq_m1, m1_eq_nI, nI_eq_m2, div_nI, rem_nI, Option.bind_some, b2_0, b2_1, isb_b2, if_true_, if_false_, ↓reduceIte, reduceCtorEq, not_true_eq_false, not_false_eq_true, bt_hasBit, ult, Nat.add_zero, false_and, true_and, and_true, and_false, Nat.reduceLeDiff, Nat.reduceEqDiff, Nat.reduceLT, Bool.toNat_true, Bool.toNat_false, decide_true, decide_false, Bool.not_true, Bool.not_false, Bool.false_and, Bool.true_and, Bool.and_true, Bool.and_false, Bool.or_false, Bool.true_or, Bool.or_true, Bool.false_or]
    simp
/-- the sequence's children so far -/
theorem c_childrenOf (hN : WFt N) (h : RD (M.1 g) N) {p : Nat} (hp : p < 20) (hu : us N p = true) : f_X7_childrenOf g (nI p) M = some (nI (chMany N p)) := by
  obtain ⟨ht, ⟨hm, q, q1, q2, q3, q4⟩, -⟩ := h
  have hm20 := manyS_le N
  have e := cnt_perm (m := manyS N) (n := 20) (f := fun s => isCh N s p) (q := q) (fun i hi => (q1 i hi).2.1) q3 (fun s hs hf => q2 s hs (isCh_t hf).2.1)
  unfold f_X7_childrenOf chMany
  rw [← e]
  refine loop (fun n (σ : Int32 × Int32) => L_X7_childrenOf_4 g (nI p) M n σ.1 σ.2) (fun i => (nI (cntN (fun i => isCh N (q i) p) i), nI i)) (manyS N) (fun n i hi => ?_) (fun n => ?_) FU (FU_lt (by omega))
  · show L_X7_childrenOf_4 g (nI p) M (n + 1) _ _ = L_X7_childrenOf_4 g (nI p) M n _ _
    obtain ⟨a1, a2, a3⟩ := q1 i hi
    have hpc := par_ch hN a2 a3 hp
    rw [L_X7_childrenOf_4, cntN_s]
    unfold B_X7_childrenOf_43
    cases hc : isCh N (q i) p with
    | false =>
      rw [hc] at hpc
      simp (disch := omega) only [↓ite_b2r, ↓ite_nb2r, ↓lit_m1, ↓lit_m2, lit_0, lit_1, lit_2, lit_3, lit_4, lit_5, lit_6, lit_7, lit_8, lit_9, lit_10, lit_11, lit_12, lit_13, lit_14, lit_15, lit_16, lit_17, lit_18, lit_19, lit_20, lit_21, lit_22, lit_23, lit_24, lit_25, lit_26, lit_27, lit_28, lit_29, lit_30, lit_31, lit_32, lit_33, lit_34, lit_35, lit_36, lit_40, lit_41, lit_42, lit_44, lit_48, lit_57, lit_59, lit_62, lit_63, lit_64, lit_82, lit_98, lit_99, lit_100, lit_101, lit_102, lit_103, lit_104, lit_105, lit_106, lit_107, lit_108, lit_109, lit_110, lit_111, lit_112, lit_113, lit_119, lit_120, lit_127, lit_128, lit_149, lit_150, lit_202, lit_240, lit_262, lit_894, lit_900, lit_999, lit_1000, lit_2000, lit_2662, lit_2663, lit_2695, lit_2701, lit_2702, lit_3602, lit_10806, nI_add, pk_mul, cl_nI, inb_nI, nI_leI, nI_ltI, nI_eq, nI_eq_m1, m1_eq_nI, nI_eq_m2, div_nI, rem_nI, Option.bind_some, b2_0, b2_1, isb_b2, if_true_, if_false_, ↓reduceIte, reduceCtorEq, not_true_eq_false, not_false_eq_true, bt_hasBit, ult, Nat.add_zero, false_and, true_and, and_true, and_false, Nat.reduceLeDiff, Nat.reduceEqDiff, Nat.reduceLT, Bool.toNat_true, Bool.toNat_false, decide_true, decide_false, Bool.not_true, Bool.not_false, Bool.false_and, Bool.true_and, Bool.and_true, Bool.and_false, Bool.or_false, Bool.true_or, Bool.or_true, Bool.false_or, hm, Nat.not_le.mpr hi, show ¬ 20 ≤ i by omega, c_hasN ht hN hp, hu, a1, c_parentOf ht hN a2 a3, hpc]
    | true =>
      rw [hc] at hpc
      simp (disch := omega) only [↓ite_b2r, ↓ite_nb2r, ↓lit_m1, ↓lit_m2, lit_0, lit_1, lit_2, lit_3, lit_4, lit_5, lit_6, lit_7, lit_8, lit_9, lit_10, lit_11, lit_12, lit_13, lit_14, lit_15, lit_16, lit_17, lit_18, lit_19, lit_20, lit_21, lit_22, lit_23, lit_24, lit_25, lit_26, lit_27, lit_28, lit_29, lit_30, lit_31, lit_32, lit_33, lit_34, lit_35, lit_36, lit_40, lit_41, lit_42, lit_44, lit_48, lit_57, lit_59, lit_62, lit_63, lit_64, lit_82, lit_98, lit_99, lit_100, lit_101, lit_102, lit_103, lit_104, lit_105, lit_106, lit_107, lit_108, lit_109, lit_110, lit_111, lit_112, lit_113, lit_119, lit_120, lit_127, lit_128, lit_149, lit_150, lit_202, lit_240, lit_262, lit_894, lit_900, lit_999, lit_1000, lit_2000, lit_2662, lit_2663, lit_2695, lit_2701, lit_2702, lit_3602, lit_10806, nI_add, pk_mul, cl_nI, inb_nI, nI_leI, nI_ltI, nI_eq, nI_eq_m1, m1_eq_nI, nI_eq_m2, div_nI, rem_nI, Option.bind_some, b2_0, b2_1, isb_b2, if_true_, if_false_, ↓reduceIte, reduceCtorEq, not_true_eq_false, not_false_eq_true, bt_hasBit, ult, Nat.add_zero, false_and, true_and, and_true, and_false, Nat.reduceLeDiff, Nat.reduceEqDiff, Nat.reduceLT, Bool.toNat_true, Bool.toNat_false, decide_true, decide_false, Bool.not_true, Bool.not_false, Bool.false_and, Bool.true_and, Bool.and_true, Bool.and_false, Bool.or_false, Bool.true_or, Bool.or_true, Bool.false_or, hm, Nat.not_le.mpr hi, show ¬ 20 ≤ i by omega, c_hasN ht hN hp, hu, a1, c_parentOf ht hN a2 a3, hpc]
  · show L_X7_childrenOf_4 g (nI p) M (n + 1) _ _ = _
    rw [L_X7_childrenOf_4]
    simp (disch := omega) only [↓ite_b2r, ↓ite_nb2r, ↓lit_m1, ↓lit_m2, lit_0, lit_1, lit_2, lit_3, lit_4, lit_5, lit_6, lit_7, lit_8, lit_9, lit_10, lit_11, lit_12, lit_13, lit_14, lit_15, lit_16, lit_17, lit_18, lit_19, lit_20, lit_21, lit_22, lit_23, lit_24, lit_25, lit_26, lit_27, lit_28, lit_29, lit_30, lit_31, lit_32, lit_33, lit_34, lit_35, lit_36, lit_40, lit_41, lit_42, lit_44, lit_48, lit_57, lit_59, lit_62, lit_63, lit_64, lit_82, lit_98, lit_99, lit_100, lit_101, lit_102, lit_103, lit_104, lit_105, lit_106, lit_107, lit_108, lit_109, lit_110, lit_111, lit_112, lit_113, lit_119, lit_120, lit_127, lit_128, lit_149, lit_150, lit_202, lit_240, lit_262, lit_894, lit_900, lit_999, lit_1000, lit_2000, lit_2662, lit_2663, lit_2695, lit_2701, lit_2702, lit_3602, lit_10806, nI_add, pk_mul, cl_nI, inb_nI, nI_leI, nI_ltI, nI_eq, nI_eq_m1, m1_eq_nI, nI_eq_m2, div_nI, rem_nI, Option.bind_some, b2_0, b2_1, isb_b2, if_true_, if_false_, ↓reduceIte, reduceCtorEq, not_true_eq_false, not_false_eq_true, bt_hasBit, ult, Nat.add_zero, false_and, true_and, and_true, and_false, Nat.reduceLeDiff, Nat.reduceEqDiff, Nat.reduceLT, Bool.toNat_true, Bool.toNat_false, decide_true, decide_false, Bool.not_true, Bool.not_false, Bool.false_and, Bool.true_and, Bool.and_true, Bool.and_false, Bool.or_false, Bool.true_or, Bool.or_true, Bool.false_or, hm, Nat.le_refl]
theorem seq_rk (hN : WFt N) {q : Nat → Nat} {m : Nat} (q1 : ∀ i, i < m → q i < 20 ∧ us N (q i) = true) (q2 : ∀ s, s < 20 → us N s = true → ∃ i, i < m ∧ q i = s) (q3 : ∀ i j, i < j → j < m → q i ≠ q j) (q4 : ∀ i j, i < j → j < m → q i ≠ 0 → q j ≠ 0 → cl (N (42 + q i)) < cl (N (42 + q j))) {p i : Nat} (hi : i < m) (hc : isCh N (q i) p = true) : rk N p (q i) = cntN (fun i => isCh N (q i) p) i := by
  have e := cnt_perm (m := m) (n := 20) (f := fun o => isCh N o p && decide (cl (N (42 + o)) < cl (N (42 + q i)))) (q := q) (fun i hi => (q1 i hi).1) q3 (fun s hs hf => by
    rw [Bool.and_eq_true] at hf
    exact q2 s hs (isCh_t hf.1).2.1)
  unfold rk
  rw [← e]
  have h0 := (isCh_t hc).1
  obtain ⟨d, rfl⟩ : ∃ d, m = i + d := ⟨m - i, by omega⟩
  rw [cntN_add, cntN_0 (p := fun i_1 => isCh N (q (i + i_1)) p && decide (cl (N (42 + q (i + i_1))) < cl (N (42 + q i)))) (fun j hj => by
    cases hcj : isCh N (q (i + j)) p with
    | false => rfl
    | true =>
      rw [Bool.true_and, decide_eq_false_iff_not]
      by_cases hj0 : j = 0
      · subst hj0; rw [Nat.add_zero]; omega
      · have := q4 i (i + j) (by omega) (by omega) h0 (isCh_t hcj).1
        omega), Nat.add_zero]
  refine cntN_c fun j hj => ?_
  cases hcj : isCh N (q j) p with
  | false => rfl
  | true => rw [Bool.true_and, decide_eq_true (q4 j i hj hi (isCh_t hcj).1 h0)]
theorem c_childAt (hN : WFt N) (h : RD (M.1 g) N) {p : Nat} (hp : p < 20) (hu : us N p = true) (x : Int32) : f_X7_childAt g (nI p) x M = some (chAt N p x 20) := by
  obtain ⟨ht, ⟨hm, q, q1, q2, q3, q4⟩, -⟩ := h
  have hm20 := manyS_le N
  have hrk := fun i hi hc => seq_rk hN (m := manyS N) (fun i hi => (q1 i hi).2) q2 q3 q4 (p := p) (i := i) hi hc
  unfold f_X7_childAt
  refine loopI (fun n (σ : Int32 × Int32) => L_X7_childAt_5 g (nI p) x M n σ.1 σ.2) (fun i σ => σ = (nI (cntN (fun i => isCh N (q i) p) i), nI i) ∧ ∀ j, j < i → isCh N (q j) p = true → nI (rk N p (q j)) ≠ x) (fun o => o = some (chAt N p x 20)) (manyS N) (fun n i σ hi hσ => ?_) (fun n σ hσ => ?_) FU (FU_lt (by omega)) (nI 0, nI 0) ⟨rfl, fun j hj => absurd hj (Nat.not_lt_zero _)⟩
  · obtain ⟨rfl, hno⟩ := hσ
    show L_X7_childAt_5 g (nI p) x M (n + 1) _ _ = _ ∨ ∃ s', L_X7_childAt_5 g (nI p) x M (n + 1) _ _ = L_X7_childAt_5 g (nI p) x M n _ _ ∧ _
    obtain ⟨a1, a2, a3⟩ := q1 i hi
    have hpc := par_ch hN a2 a3 hp
    rw [L_X7_childAt_5, cntN_s]
    unfold B_X7_childAt_60
    cases hc : isCh N (q i) p with
    | false =>
      rw [hc] at hpc
      refine Or.inr ⟨(nI (cntN (fun i => isCh N (q i) p) i), nI (i + 1)), ?_, rfl, fun j hj hcj => ?_⟩
      · simp (disch := omega) only [↓ite_b2r, ↓ite_nb2r, ↓lit_m1, ↓lit_m2, lit_0, lit_1, lit_2, lit_3, lit_4, lit_5, lit_6, lit_7, lit_8, lit_9, lit_10, lit_11, lit_12, lit_13, lit_14, lit_15, lit_16, lit_17, lit_18, lit_19, lit_20, lit_21, lit_22, lit_23, lit_24, lit_25, lit_26, lit_27, lit_28, lit_29, lit_30, lit_31, lit_32, lit_33, lit_34, lit_35, lit_36, lit_40, lit_41, lit_42, lit_44, lit_48, lit_57, lit_59, lit_62, lit_63, lit_64, lit_82, lit_98, lit_99, lit_100, lit_101, lit_102, lit_103, lit_104, lit_105, lit_106, lit_107, lit_108, lit_109, lit_110, lit_111, lit_112, lit_113, lit_119, lit_120, lit_127, lit_128, lit_149, lit_150, lit_202, lit_240, lit_262, lit_894, lit_900, lit_999, lit_1000, lit_2000, lit_2662, lit_2663, lit_2695, lit_2701, lit_2702, lit_3602, lit_10806, nI_add, pk_mul, cl_nI, inb_nI, nI_leI, nI_ltI, nI_eq, nI_eq_m1, m1_eq_nI, nI_eq_m2, div_nI, rem_nI, Option.bind_some, b2_0, b2_1, isb_b2, if_true_, if_false_, ↓reduceIte, reduceCtorEq, not_true_eq_false, not_false_eq_true, bt_hasBit, ult, Nat.add_zero, false_and, true_and, and_true, and_false, Nat.reduceLeDiff, Nat.reduceEqDiff, Nat.reduceLT, Bool.toNat_true, Bool.toNat_false, decide_true, decide_false, Bool.not_true, Bool.not_false, Bool.false_and, Bool.true_and, Bool.and_true, Bool.and_false, Bool.or_false, Bool.true_or, Bool.or_true, Bool.false_or, hm, Nat.not_le.mpr hi, show ¬ 20 ≤ i by omega, c_hasN ht hN hp, hu, a1, c_parentOf ht hN a2 a3, hpc]
      · by_cases hji : j = i
        · subst hji; rw [hc] at hcj; cases hcj
        · exact hno j (by omega) hcj
    | true =>
      rw [hc] at hpc
      have hr := hrk i hi hc
      by_cases hx : nI (cntN (fun i => isCh N (q i) p) i) = x
      · refine Or.inl ?_
        rw [chAt_yes hN hc (by rw [hr]; exact hx) 20 a2 (Nat.le_refl _)]
        simp (disch := omega) only [↓ite_b2r, ↓ite_nb2r, ↓lit_m1, ↓lit_m2, lit_0, lit_1, lit_2, lit_3, lit_4, lit_5, lit_6, lit_7, lit_8, lit_9, lit_10, lit_11, lit_12, lit_13, lit_14, lit_15, lit_16, lit_17, lit_18, lit_19, lit_20, lit_21, lit_22, lit_23, lit_24, lit_25, lit_26, lit_27, lit_28, lit_29, lit_30, lit_31, lit_32, lit_33, lit_34, lit_35, lit_36, lit_40, lit_41, lit_42, lit_44, lit_48, lit_57, lit_59, lit_62, lit_63, lit_64, lit_82, lit_98, lit_99, lit_100, lit_101, lit_102, lit_103, lit_104, lit_105, lit_106, lit_107, lit_108, lit_109, lit_110, lit_111, lit_112, lit_113, lit_119, lit_120, lit_127, lit_128, lit_149, lit_150, lit_202, lit_240, lit_262, lit_894, lit_900, lit_999, lit_1000, lit_2000, lit_2662, lit_2663, lit_2695, lit_2701, lit_2702, lit_3602, lit_10806, nI_add, pk_mul, cl_nI, inb_nI, nI_leI, nI_ltI, nI_eq, nI_eq_m1, m1_eq_nI, nI_eq_m2, div_nI, rem_nI, Option.bind_some, b2_0, b2_1, isb_b2, if_true_, if_false_, ↓reduceIte, reduceCtorEq, not_true_eq_false, not_false_eq_true, bt_hasBit, ult, Nat.add_zero, false_and, true_and, and_true, and_false, Nat.reduceLeDiff, Nat.reduceEqDiff, Nat.reduceLT, Bool.toNat_true, Bool.toNat_false, decide_true, decide_false, Bool.not_true, Bool.not_false, Bool.false_and, Bool.true_and, Bool.and_true, Bool.and_false, Bool.or_false, Bool.true_or, Bool.or_true, Bool.false_or, hm, Nat.not_le.mpr hi, show ¬ 20 ≤ i by omega, c_hasN ht hN hp, hu, a1, c_parentOf ht hN a2 a3, hpc, hx]
      · refine Or.inr ⟨(nI (cntN (fun i => isCh N (q i) p) i + 1), nI (i + 1)), ?_, rfl, fun j hj hcj => ?_⟩
        · simp (disch := omega) only [↓ite_b2r, ↓ite_nb2r, ↓lit_m1, ↓lit_m2, lit_0, lit_1, lit_2, lit_3, lit_4, lit_5, lit_6, lit_7, lit_8, lit_9, lit_10, lit_11, lit_12, lit_13, lit_14, lit_15, lit_16, lit_17, lit_18, lit_19, lit_20, lit_21, lit_22, lit_23, lit_24, lit_25, lit_26, lit_27, lit_28, lit_29, lit_30, lit_31, lit_32, lit_33, lit_34, lit_35, lit_36, lit_40, lit_41, lit_42, lit_44, lit_48, lit_57, lit_59, lit_62, lit_63, lit_64, lit_82, lit_98, lit_99, lit_100, lit_101, lit_102, lit_103, lit_104, lit_105, lit_106, lit_107, lit_108, lit_109, lit_110, lit_111, lit_112, lit_113, lit_119, lit_120, lit_127, lit_128, lit_149, lit_150, lit_202, lit_240, lit_262, lit_894, lit_900, lit_999, lit_1000, lit_2000, lit_2662, lit_2663, lit_2695, lit_2701, lit_2702, lit_3602, lit_10806, nI_add, pk_mul, cl_nI, inb_nI, nI_leI, nI_ltI, nI_eq, nI_eq_m1, m1_eq_nI, nI_eq_m2, div_nI, rem_nI, Option.bind_some, b2_0, b2_1, isb_b2, if_true_, if_false_, ↓reduceIte, reduceCtorEq, not_true_eq_false, not_false_eq_true, bt_hasBit, ult, Nat.add_zero, false_and, true_and, and_true, and_false, Nat.reduceLeDiff, Nat.reduceEqDiff, Nat.reduceLT, Bool.toNat_true, Bool.toNat_false, decide_true, decide_false, Bool.not_true, Bool.not_false, Bool.false_and, Bool.true_and, Bool.and_true, Bool.and_false, Bool.or_false, Bool.true_or, Bool.or_true, Bool.false_or, hm, Nat.not_le.mpr hi, show ¬ 20 ≤ i by omega, c_hasN ht hN hp, hu, a1, c_parentOf ht hN a2 a3, hpc, hx]
        · by_cases hji : j = i
          · subst hji; rw [hr]; exact hx
          · exact hno j (by omega) hcj
  · obtain ⟨rfl, hno⟩ := hσ
    show L_X7_childAt_5 g (nI p) x M (n + 1) _ _ = _
    rw [L_X7_childAt_5, chAt_no 20 (fun s hs hc => by
      obtain ⟨i, hi, rfl⟩ := q2 s hs (isCh_t hc).2.1
      exact hno i hi hc)]
    simp (disch := omega) only [↓ite_b2r, ↓ite_nb2r, ↓lit_m1, ↓lit_m2, lit_0, lit_1, lit_2, lit_3, lit_4, lit_5, lit_6, lit_7, lit_8, lit_9, lit_10, lit_11, lit_12, lit_13, lit_14, lit_15, lit_16, lit_17, lit_18, lit_19, lit_20, lit_21, lit_22, lit_23, lit_24, lit_25, lit_26, lit_27, lit_28, lit_29, lit_30, lit_31, lit_32, lit_33, lit_34, lit_35, lit_36, lit_40, lit_41, lit_42, lit_44, lit_48, lit_57, lit_59, lit_62, lit_63, lit_64, lit_82, lit_98, lit_99, lit_100, lit_101, lit_102, lit_103, lit_104, lit_105, lit_106, lit_107, lit_108, lit_109, lit_110, lit_111, lit_112, lit_113, lit_119, lit_120, lit_127, lit_128, lit_149, lit_150, lit_202, lit_240, lit_262, lit_894, lit_900, lit_999, lit_1000, lit_2000, lit_2662, lit_2663, lit_2695, lit_2701, lit_2702, lit_3602, lit_10806, nI_add, pk_mul, cl_nI, inb_nI, nI_leI, nI_ltI, nI_eq, nI_eq_m1, m1_eq_nI, nI_eq_m2, div_nI, rem_nI, Option.bind_some, b2_0, b2_1, isb_b2, if_true_, if_false_, ↓reduceIte, reduceCtorEq, not_true_eq_false, not_false_eq_true, bt_hasBit, ult, Nat.add_zero, false_and, true_and, and_true, and_false, Nat.reduceLeDiff, Nat.reduceEqDiff, Nat.reduceLT, Bool.toNat_true, Bool.toNat_false, decide_true, decide_false, Bool.not_true, Bool.not_false, Bool.false_and, Bool.true_and, Bool.and_true, Bool.and_false, Bool.or_false, Bool.true_or, Bool.or_true, Bool.false_or, hm, Nat.le_refl]
theorem rk_ex (hN : WFt N) (h : RDs (M.1 g) N) {p j : Nat} (hj : j < chMany N p) : ∃ s, s < 20 ∧ isCh N s p = true ∧ rk N p s = j := by
  obtain ⟨hm, q, q1, q2, q3, q4⟩ := h
  have e := cnt_perm (m := manyS N) (n := 20) (f := fun s => isCh N s p) (q := q) (fun i hi => (q1 i hi).2.1) q3 (fun s hs hf => q2 s hs (isCh_t hf).2.1)
  unfold chMany at hj
  rw [← e] at hj
  obtain ⟨i, a, b, c⟩ := cnt_at hj
  exact ⟨q i, (q1 i a).2.1, b, by rw [seq_rk hN (m := manyS N) (fun i hi => (q1 i hi).2) q2 q3 q4 a b]; exact c⟩
theorem rk_lt {N : Row} {p s : Nat} (hs : s < 20) (hc : isCh N s p = true) : rk N p s < chMany N p := by
  refine cntN_lt (fun k hk hp => ?_) ⟨s, hs, by simp, hc⟩
  rw [Bool.and_eq_true] at hp
  exact hp.1
theorem m_childAt {M : Mem} (h : WFt (M.1 7 1)) {p : Nat} (hp : p < 20) (x : Int32) : f_X9_childAt (nI p) x M = some (chAt (M.1 7 1) p x 20) := by
  unfold f_X9_childAt
  have h1 : chAt (M.1 7 1) p x 1 = mI := by
    rw [chAt, if_neg (by unfold isCh; simp)]
    rfl
  refine loop0 (fun n (σ : Int32 × Int32) => L_X9_childAt_5 (nI p) x M n σ.1 σ.2) (fun i => (chAt (M.1 7 1) p x (i + 1), nI (i + 1))) 19 (mI, nI 1) (by rw [h1]) (fun n i hi => ?_) (fun n => ?_) FU (by decide)
  · show L_X9_childAt_5 (nI p) x M (n + 1) _ _ = L_X9_childAt_5 (nI p) x M n _ _
    rw [L_X9_childAt_5]
    dsimp only
    rw [if_neg (show ¬ (20 : Int32) ≤ nI (i + 1) from fun e => by have e2 : nI 20 ≤ nI (i + 1) := e; rw [nI_leI (by omega) (by omega)] at e2; omega)]
    have hb : ∀ o, isCh (M.1 7 1) o p = true → o < 20 → isCh (M.1 7 1) (i + 1) p = true → (M.1 7 1 (42 + (i + 1)) ≤ M.1 7 1 (42 + o)) = ¬ (cl (M.1 7 1 (42 + o)) < cl (M.1 7 1 (42 + (i + 1)))) := by
      intro o h1 h2 h3
      obtain ⟨a1, a2, a3⟩ := isCh_t h1
      obtain ⟨b1, b2', b3⟩ := isCh_t h3
      obtain ⟨p1, p2⟩ := place_eq h (by omega) h2 a2
      obtain ⟨r1, r2⟩ := place_eq h (by omega) (by omega) b2'
      have hn1 := h.2.2.2.2.2.1.2
      rw [p1, r1, cl_nI (by omega), cl_nI (by omega), nI_leI (by omega) (by omega), Nat.not_lt]
    cases hc : isCh (M.1 7 1) (i + 1) p with
    | false =>
      -- not a child: what is ahead does not matter
      have e1 : chAt (M.1 7 1) p x (i + 1 + 1) = chAt (M.1 7 1) p x (i + 1) := by rw [chAt, hc]; rfl
      rw [e1]
      have main : ∃ v, L_X9_childAt_18 (L_X9_childAt_5 (nI p) x M n) (nI p) x (chAt (M.1 7 1) p x (i + 1)) (nI (i + 1)) M FU 0 1 = v ∧ v = L_X9_childAt_5 (nI p) x M n (chAt (M.1 7 1) p x (i + 1)) (nI (i + 1 + 1)) := by
        refine ⟨_, rfl, ?_⟩
        refine loopI (fun m (σ : Int32 × Int32) => L_X9_childAt_18 (L_X9_childAt_5 (nI p) x M n) (nI p) x (chAt (M.1 7 1) p x (i + 1)) (nI (i + 1)) M m σ.1 σ.2) (fun o σ => ∃ v, σ = (v, nI (o + 1))) (fun r => r = L_X9_childAt_5 (nI p) x M n (chAt (M.1 7 1) p x (i + 1)) (nI (i + 1 + 1))) 19 (fun m o σ ho hσ => ?_) (fun m σ hσ => ?_) FU (by decide) (nI 0, nI 1) ⟨_, rfl⟩
        · obtain ⟨v, rfl⟩ := hσ
          refine Or.inr ?_
          show ∃ s', L_X9_childAt_18 _ (nI p) x _ _ M (m + 1) _ _ = L_X9_childAt_18 _ (nI p) x _ _ M m _ _ ∧ _
          have mo := m_isChild h (s := o + 1) (by omega) hp
          rw [L_X9_childAt_18]
          unfold B_X9_childAt_64 B_X9_childAt_65
          cases hco : isCh (M.1 7 1) (o + 1) p with
          | false =>
            rw [hco] at mo
            refine ⟨(v + nI 0, nI (o + 1 + 1)), ?_, _, rfl⟩
            simp (disch := omega) only [↓ite_b2r, ↓ite_nb2r, ↓lit_m1, ↓lit_m2, lit_0, lit_1, lit_2, lit_3, lit_4, lit_5, lit_6, lit_7, lit_8, lit_9, lit_10, lit_11, lit_12, lit_13, lit_14, lit_15, lit_16, lit_17, lit_18, lit_19, lit_20, lit_21, lit_22, lit_23, lit_24, lit_25, lit_26, lit_27, lit_28, lit_29, lit_30, lit_31, lit_32, lit_33, lit_34, lit_35, lit_36, lit_40, lit_41, lit_42, lit_44, lit_48, lit_57, lit_59, lit_62, lit_63, lit_64, lit_82, lit_98, lit_99, lit_100, lit_101, lit_102, lit_103, lit_104, lit_105, lit_106, lit_107, lit_108, lit_109, lit_110, lit_111, lit_112, lit_113, lit_119, lit_120, lit_127, lit_128, lit_149, lit_150, lit_202, lit_240, lit_262, lit_894, lit_900, lit_999, lit_1000, lit_2000, lit_2662, lit_2663, lit_2695, lit_2701, lit_2702, lit_3602, lit_10806, nI_add, pk_mul, cl_nI, inb_nI, nI_leI, nI_ltI, nI_eq, nI_eq_m1, m1_eq_nI, nI_eq_m2, div_nI, rem_nI, Option.bind_some, b2_0, b2_1, isb_b2, if_true_, if_false_, ↓reduceIte, reduceCtorEq, not_true_eq_false, not_false_eq_true, bt_hasBit, ult, Nat.add_zero, false_and, true_and, and_true, and_false, Nat.reduceLeDiff, Nat.reduceEqDiff, Nat.reduceLT, Bool.toNat_true, Bool.toNat_false, decide_true, decide_false, Bool.not_true, Bool.not_false, Bool.false_and, Bool.true_and, Bool.and_true, Bool.and_false, Bool.or_false, Bool.true_or, Bool.or_true, Bool.false_or, show ¬ 20 ≤ o + 1 by omega, mo]
          | true =>
            rw [hco] at mo
            by_cases hle : M.1 7 1 (42 + (i + 1)) ≤ M.1 7 1 (42 + (o + 1))
            · refine ⟨(v + nI 0, nI (o + 1 + 1)), ?_, _, rfl⟩
              simp (disch := omega) only [↓ite_b2r, ↓ite_nb2r, ↓lit_m1, ↓lit_m2, lit_0, lit_1, lit_2, lit_3, lit_4, lit_5, lit_6, lit_7, lit_8, lit_9, lit_10, lit_11, lit_12, lit_13, lit_14, lit_15, lit_16, lit_17, lit_18, lit_19, lit_20, lit_21, lit_22, lit_23, lit_24, lit_25, lit_26, lit_27, lit_28, lit_29, lit_30, lit_31, lit_32, lit_33, lit_34, lit_35, lit_36, lit_40, lit_41, lit_42, lit_44, lit_48, lit_57, lit_59, lit_62, lit_63, lit_64, lit_82, lit_98, lit_99, lit_100, lit_101, lit_102, lit_103, lit_104, lit_105, lit_106, lit_107, lit_108, lit_109, lit_110, lit_111, lit_112, lit_113, lit_119, lit_120, lit_127, lit_128, lit_149, lit_150, lit_202, lit_240, lit_262, lit_894, lit_900, lit_999, lit_1000, lit_2000, lit_2662, lit_2663, lit_2695, lit_2701, lit_2702, lit_3602, lit_10806, nI_add, pk_mul, cl_nI, inb_nI, nI_leI, nI_ltI, nI_eq, nI_eq_m1, m1_eq_nI, nI_eq_m2, div_nI, rem_nI, Option.bind_some, b2_0, b2_1, isb_b2, if_true_, if_false_, ↓reduceIte, reduceCtorEq, not_true_eq_false, not_false_eq_true, bt_hasBit, ult, Nat.add_zero, false_and, true_and, and_true, and_false, Nat.reduceLeDiff, Nat.reduceEqDiff, Nat.reduceLT, Bool.toNat_true, Bool.toNat_false, decide_true, decide_false, Bool.not_true, Bool.not_false, Bool.false_and, Bool.true_and, Bool.and_true, Bool.and_false, Bool.or_false, Bool.true_or, Bool.or_true, Bool.false_or, show ¬ 20 ≤ o + 1 by omega, mo, hle]
            · refine ⟨(v + nI 1, nI (o + 1 + 1)), ?_, _, rfl⟩
              simp (disch := omega) only [↓ite_b2r, ↓ite_nb2r, ↓lit_m1, ↓lit_m2, lit_0, lit_1, lit_2, lit_3, lit_4, lit_5, lit_6, lit_7, lit_8, lit_9, lit_10, lit_11, lit_12, lit_13, lit_14, lit_15, lit_16, lit_17, lit_18, lit_19, lit_20, lit_21, lit_22, lit_23, lit_24, lit_25, lit_26, lit_27, lit_28, lit_29, lit_30, lit_31, lit_32, lit_33, lit_34, lit_35, lit_36, lit_40, lit_41, lit_42, lit_44, lit_48, lit_57, lit_59, lit_62, lit_63, lit_64, lit_82, lit_98, lit_99, lit_100, lit_101, lit_102, lit_103, lit_104, lit_105, lit_106, lit_107, lit_108, lit_109, lit_110, lit_111, lit_112, lit_113, lit_119, lit_120, lit_127, lit_128, lit_149, lit_150, lit_202, lit_240, lit_262, lit_894, lit_900, lit_999, lit_1000, lit_2000, lit_2662, lit_2663, lit_2695, lit_2701, lit_2702, lit_3602, lit_10806, nI_add, pk_mul, cl_nI, inb_nI, nI_leI, nI_ltI, nI_eq, nI_eq_m1, m1_eq_nI, nI_eq_m2, div_nI, rem_nI, Option.bind_some, b2_0, b2_1, isb_b2, if_true_, if_false_, ↓reduceIte, reduceCtorEq, not_true_eq_false, not_false_eq_true, bt_hasBit, ult, Nat.add_zero, false_and, true_and, and_true, and_false, Nat.reduceLeDiff, Nat.reduceEqDiff, Nat.reduceLT, Bool.toNat_true, Bool.toNat_false, decide_true, decide_false, Bool.not_true, Bool.not_false, Bool.false_and, Bool.true_and, Bool.and_true, Bool.and_false, Bool.or_false, Bool.true_or, Bool.or_true, Bool.false_or, show ¬ 20 ≤ o + 1 by omega, mo, hle]
        · obtain ⟨v, rfl⟩ := hσ
          show L_X9_childAt_18 _ (nI p) x _ _ M (m + 1) _ _ = _
          rw [L_X9_childAt_18, m_isChild h (by omega) hp, hc]
          unfold B_X9_childAt_95 B_X9_childAt_96
          simp (disch := omega) only [↓ite_b2r, ↓ite_nb2r, ↓lit_m1, ↓lit_m2, lit_0, lit_1, lit_2, lit_3, lit_4, lit_5, lit_6, lit_7, lit_8, lit_9, lit_10, lit_11, lit_12, lit_13, lit_14, lit_15, lit_16, lit_17, lit_18, lit_19, lit_20, lit_21, lit_22, lit_23, lit_24, lit_25, lit_26, lit_27, lit_28, lit_29, lit_30, lit_31, lit_32, lit_33, lit_34, lit_35, lit_36, lit_40, lit_41, lit_42, lit_44, lit_48, lit_57, lit_59, lit_62, lit_63, lit_64, lit_82, lit_98, lit_99, lit_100, lit_101, lit_102, lit_103, lit_104, lit_105, lit_106, lit_107, lit_108, lit_109, lit_110, lit_111, lit_112, lit_113, lit_119, lit_120, lit_127, lit_128, lit_149, lit_150, lit_202, lit_240, lit_262, lit_894, lit_900, lit_999, lit_1000, lit_2000, lit_2662, lit_2663, lit_2695, lit_2701, lit_2702, lit_3602, lit_10806, nI_add, pk_mul, cl_nI, inb_nI, nI_leI, nI_ltI, nI_eq, nI_eq_m1, m1_eq_nI, nI_eq_m2, div_nI, rem_nI, Option.bind_some, b2_0, b2_1, isb_b2, if_true_, if_false_, ↓reduceIte, reduceCtorEq, not_true_eq_false, not_false_eq_true, bt_hasBit, ult, Nat.add_zero, false_and, true_and, and_true, and_false, Nat.reduceLeDiff, Nat.reduceEqDiff, Nat.reduceLT, Bool.toNat_true, Bool.toNat_false, decide_true, decide_false, Bool.not_true, Bool.not_false, Bool.false_and, Bool.true_and, Bool.and_true, Bool.and_false, Bool.or_false, Bool.true_or, Bool.or_true, Bool.false_or, Nat.le_refl]
      obtain ⟨v, m1, m2⟩ := main
      exact m1.trans m2
    | true =>
      refine loop (fun m (σ : Int32 × Int32) => L_X9_childAt_18 (L_X9_childAt_5 (nI p) x M n) (nI p) x (chAt (M.1 7 1) p x (i + 1)) (nI (i + 1)) M m σ.1 σ.2) (fun o => (nI (cntN (fun o => isCh (M.1 7 1) o p && decide (cl (M.1 7 1 (42 + o)) < cl (M.1 7 1 (42 + (i + 1))))) (o + 1)), nI (o + 1))) 19 (fun m o ho => ?_) (fun m => ?_) FU (by decide)
      · show L_X9_childAt_18 _ (nI p) x _ _ M (m + 1) _ _ = L_X9_childAt_18 _ (nI p) x _ _ M m _ _
        have mo := m_isChild h (s := o + 1) (by omega) hp
        rw [L_X9_childAt_18]
        unfold B_X9_childAt_64 B_X9_childAt_65
        rw [cntN_s _ (o + 1)]
        cases hco : isCh (M.1 7 1) (o + 1) p with
        | false =>
          rw [hco] at mo
          simp (disch := omega) only [↓ite_b2r, ↓ite_nb2r, ↓lit_m1, ↓lit_m2, lit_0, lit_1, lit_2, lit_3, lit_4, lit_5, lit_6, lit_7, lit_8, lit_9, lit_10, lit_11, lit_12, lit_13, lit_14, lit_15, lit_16, lit_17, lit_18, lit_19, lit_20, lit_21, lit_22, lit_23, lit_24, lit_25, lit_26, lit_27, lit_28, lit_29, lit_30, lit_31, lit_32, lit_33, lit_34, lit_35, lit_36, lit_40, lit_41, lit_42, lit_44, lit_48, lit_57, lit_59, lit_62, lit_63, lit_64, lit_82, lit_98, lit_99, lit_100, lit_101, lit_102, lit_103, lit_104, lit_105, lit_106, lit_107, lit_108, lit_109, lit_110, lit_111, lit_112, lit_113, lit_119, lit_120, lit_127, lit_128, lit_149, lit_150, lit_202, lit_240, lit_262, lit_894, lit_900, lit_999, lit_1000, lit_2000, lit_2662, lit_2663, lit_2695, lit_2701, lit_2702, lit_3602, lit_10806, nI_add, pk_mul, cl_nI, inb_nI, nI_leI, nI_ltI, nI_eq, nI_eq_m1, m1_eq_nI, nI_eq_m2, div_nI, rem_nI, Option.bind_some, b2_0, b2_1, isb_b2, if_true_, if_false_, ↓reduceIte, reduceCtorEq, not_true_eq_false, not_false_eq_true, bt_hasBit, ult, Nat.add_zero, false_and, true_and, and_true, and_false, Nat.reduceLeDiff, Nat.reduceEqDiff, Nat.reduceLT, Bool.toNat_true, Bool.toNat_false, decide_true, decide_false, Bool.not_true, Bool.not_false, Bool.false_and, Bool.true_and, Bool.and_true, Bool.and_false, Bool.or_false, Bool.true_or, Bool.or_true, Bool.false_or, show ¬ 20 ≤ o + 1 by omega, mo]
        | true =>
          rw [hco] at mo
          have hb1 := hb (o + 1) hco (by omega) hc
          by_cases hlt : cl (M.1 7 1 (42 + (o + 1))) < cl (M.1 7 1 (42 + (i + 1)))
          · rw [eq_true hlt] at hb1
            simp (disch := omega) only [↓ite_b2r, ↓ite_nb2r, ↓lit_m1, ↓lit_m2, lit_0, lit_1, lit_2, lit_3, lit_4, lit_5, lit_6, lit_7, lit_8, lit_9, lit_10, lit_11, lit_12, lit_13, lit_14, lit_15, lit_16, lit_17, lit_18, lit_19, lit_20, lit_21, lit_22, lit_23, lit_24, lit_25, lit_26, lit_27, lit_28, lit_29, lit_30, lit_31, lit_32, lit_33, lit_34, lit_35, lit_36, lit_40, lit_41, lit_42, lit_44, lit_48, lit_57, lit_59, lit_62, lit_63, lit_64, lit_82, lit_98, lit_99, lit_100, lit_101, lit_102, lit_103, lit_104, lit_105, lit_106, lit_107, lit_108, lit_109, lit_110, lit_111, lit_112, lit_113, lit_119, lit_120, lit_127, lit_128, lit_149, lit_150, lit_202, lit_240, lit_262, lit_894, lit_900, lit_999, lit_1000, lit_2000, lit_2662, lit_2663, lit_2695, lit_2701, lit_2702, lit_3602, lit_10806, nI_add, pk_mul, cl_nI, inb_nI, nI_leI, nI_ltI, nI_eq, nI_eq_m1, m1_eq_nI, nI_eq_m2, div_nI, rem_nI, Option.bind_some, b2_0, b2_1, isb_b2, if_true_, if_false_, ↓reduceIte, reduceCtorEq, not_true_eq_false, not_false_eq_true, bt_hasBit, ult, Nat.add_zero, false_and, true_and, and_true, and_false, Nat.reduceLeDiff, Nat.reduceEqDiff, Nat.reduceLT, Bool.toNat_true, Bool.toNat_false, decide_true, decide_false, Bool.not_true, Bool.not_false, Bool.false_and, Bool.true_and, Bool.and_true, Bool.and_false, Bool.or_false, Bool.true_or, Bool.or_true, Bool.false_or, show ¬ 20 ≤ o + 1 by omega, mo, hb1, hlt]
          · rw [eq_false hlt] at hb1
            simp (disch := omega) only [↓ite_b2r, ↓ite_nb2r, ↓lit_m1, ↓lit_m2, lit_0, lit_1, lit_2, lit_3, lit_4, lit_5, lit_6, lit_7, lit_8, lit_9, lit_10, lit_11, lit_12, lit_13, lit_14, lit_15, lit_16, lit_17, lit_18, lit_19, lit_20, lit_21, lit_22, lit_23, lit_24, lit_25, lit_26, lit_27, lit_28, lit_29, lit_30, lit_31, lit_32, lit_33, lit_34, lit_35, lit_36, lit_40, lit_41, lit_42, lit_44, lit_48, lit_57, lit_59, lit_62, lit_63, lit_64, lit_82, lit_98, lit_99, lit_100, lit_101, lit_102, lit_103, lit_104, lit_105, lit_106, lit_107, lit_108, lit_109, lit_110, lit_111, lit_112, lit_113, lit_119, lit_120, lit_127, lit_128, lit_149, lit_150, lit_202, lit_240, lit_262, lit_894, lit_900, lit_999, lit_1000, lit_2000, lit_2662, lit_2663, lit_2695, lit_2701, lit_2702, lit_3602, lit_10806, nI_add, pk_mul, cl_nI, inb_nI, nI_leI, nI_ltI, nI_eq, nI_eq_m1, m1_eq_nI, nI_eq_m2, div_nI, rem_nI, Option.bind_some, b2_0, b2_1, isb_b2, if_true_, if_false_, ↓reduceIte, reduceCtorEq, not_true_eq_false, not_false_eq_true, bt_hasBit, ult, Nat.add_zero, false_and, true_and, and_true, and_false, Nat.reduceLeDiff, Nat.reduceEqDiff, Nat.reduceLT, Bool.toNat_true, Bool.toNat_false, decide_true, decide_false, Bool.not_true, Bool.not_false, Bool.false_and, Bool.true_and, Bool.and_true, Bool.and_false, Bool.or_false, Bool.true_or, Bool.or_true, Bool.false_or, show ¬ 20 ≤ o + 1 by omega, mo, hb1, hlt]
      · show L_X9_childAt_18 _ (nI p) x _ _ M (m + 1) _ _ = _
        rw [L_X9_childAt_18, m_isChild h (by omega) hp, hc]
        unfold B_X9_childAt_95 B_X9_childAt_96
        show _ = L_X9_childAt_5 (nI p) x M n (if (isCh (M.1 7 1) (i + 1) p && decide (nI (rk (M.1 7 1) p (i + 1)) = x)) = true then nI (i + 1) else chAt (M.1 7 1) p x (i + 1)) (nI (i + 1 + 1))
        rw [hc, Bool.true_and]
        have er : cntN (fun o => isCh (M.1 7 1) o p && decide (cl (M.1 7 1 (42 + o)) < cl (M.1 7 1 (42 + (i + 1))))) (19 + 1) = rk (M.1 7 1) p (i + 1) := rfl
        dsimp only
        rw [er]
        by_cases hx : nI (rk (M.1 7 1) p (i + 1)) = x
        · simp (disch := omega) only [↓ite_b2r, ↓ite_nb2r, ↓lit_m1, ↓lit_m2, lit_0, lit_1, lit_2, lit_3, lit_4, lit_5, lit_6, lit_7, lit_8, lit_9, lit_10, lit_11, lit_12, lit_13, lit_14, lit_15, lit_16, lit_17, lit_18, lit_19, lit_20, lit_21, lit_22, lit_23, lit_24, lit_25, lit_26, lit_27, lit_28, lit_29, lit_30, lit_31, lit_32, lit_33, lit_34, lit_35, lit_36, lit_40, lit_41, lit_42, lit_44, lit_48, lit_57, lit_59, lit_62, lit_63, lit_64, lit_82, lit_98, lit_99, lit_100, lit_101, lit_102, lit_103, lit_104, lit_105, lit_106, lit_107, lit_108, lit_109, lit_110, lit_111, lit_112, lit_113, lit_119, lit_120, lit_127, lit_128, lit_149, lit_150, lit_202, lit_240, lit_262, lit_894, lit_900, lit_999, lit_1000, lit_2000, lit_2662, lit_2663, lit_2695, lit_2701, lit_2702, lit_3602, lit_10806, nI_add, pk_mul, cl_nI, inb_nI, nI_leI, nI_ltI, nI_eq, nI_eq_m1, m1_eq_nI, nI_eq_m2, div_nI, rem_nI, Option.bind_some, b2_0, b2_1, isb_b2, if_true_, if_false_, ↓reduceIte, reduceCtorEq, not_true_eq_false, not_false_eq_true, bt_hasBit, ult, Nat.add_zero, false_and, true_and, and_true, and_false, Nat.reduceLeDiff, Nat.reduceEqDiff, Nat.reduceLT, Bool.toNat_true, Bool.toNat_false, decide_true, decide_false, Bool.not_true, Bool.not_false, Bool.false_and, Bool.true_and, Bool.and_true, Bool.and_false, Bool.or_false, Bool.true_or, Bool.or_true, Bool.false_or, Nat.le_refl, hx]
        · simp (disch := omega) only [↓ite_b2r, ↓ite_nb2r, ↓lit_m1, ↓lit_m2, lit_0, lit_1, lit_2, lit_3, lit_4, lit_5, lit_6, lit_7, lit_8, lit_9, lit_10, lit_11, lit_12, lit_13, lit_14, lit_15, lit_16, lit_17, lit_18, lit_19, lit_20, lit_21, lit_22, lit_23, lit_24, lit_25, lit_26, lit_27, lit_28, lit_29, lit_30, lit_31, lit_32, lit_33, lit_34, lit_35, lit_36, lit_40, lit_41, lit_42, lit_44, lit_48, lit_57, lit_59, lit_62, lit_63, lit_64, lit_82, lit_98, lit_99, lit_100, lit_101, lit_102, lit_103, lit_104, lit_105, lit_106, lit_107, lit_108, lit_109, lit_110, lit_111, lit_112, lit_113, lit_119, lit_120, lit_127, lit_128, lit_149, lit_150, lit_202, lit_240, lit_262, lit_894, lit_900, lit_999, lit_1000, lit_2000, lit_2662, lit_2663, lit_2695, lit_2701, lit_2702, lit_3602, lit_10806, nI_add, pk_mul, cl_nI, inb_nI, nI_leI, nI_ltI, nI_eq, nI_eq_m1, m1_eq_nI, nI_eq_m2, div_nI, rem_nI, Option.bind_some, b2_0, b2_1, isb_b2, if_true_, if_false_, ↓reduceIte, reduceCtorEq, not_true_eq_false, not_false_eq_true, bt_hasBit, ult, Nat.add_zero, false_and, true_and, and_true, and_false, Nat.reduceLeDiff, Nat.reduceEqDiff, Nat.reduceLT, Bool.toNat_true, Bool.toNat_false, decide_true, decide_false, Bool.not_true, Bool.not_false, Bool.false_and, Bool.true_and, Bool.and_true, Bool.and_false, Bool.or_false, Bool.true_or, Bool.or_true, Bool.false_or, Nat.le_refl, hx]
  · show L_X9_childAt_5 (nI p) x M (n + 1) _ _ = _
    rw [L_X9_childAt_5]
    simp (disch := omega) only [↓ite_b2r, ↓ite_nb2r, ↓lit_m1, ↓lit_m2, lit_0, lit_1, lit_2, lit_3, lit_4, lit_5, lit_6, lit_7, lit_8, lit_9, lit_10, lit_11, lit_12, lit_13, lit_14, lit_15, lit_16, lit_17, lit_18, lit_19, lit_20, lit_21, lit_22, lit_23, lit_24, lit_25, lit_26, lit_27, lit_28, lit_29, lit_30, lit_31, lit_32, lit_33, lit_34, lit_35, lit_36, lit_40, lit_41, lit_42, lit_44, lit_48, lit_57, lit_59, lit_62, lit_63, lit_64, lit_82, lit_98, lit_99, lit_100, lit_101, lit_102, lit_103, lit_104, lit_105, lit_106, lit_107, lit_108, lit_109, lit_110, lit_111, lit_112, lit_113, lit_119, lit_120, lit_127, lit_128, lit_149, lit_150, lit_202, lit_240, lit_262, lit_894, lit_900, lit_999, lit_1000, lit_2000, lit_2662, lit_2663, lit_2695, lit_2701, lit_2702, lit_3602, lit_10806, nI_add, pk_mul, cl_nI, inb_nI, nI_leI, nI_ltI, nI_eq, nI_eq_m1, m1_eq_nI, nI_eq_m2, div_nI, rem_nI, Option.bind_some, b2_0, b2_1, isb_b2, if_true_, if_false_, ↓reduceIte, reduceCtorEq, not_true_eq_false, not_false_eq_true, bt_hasBit, ult, Nat.add_zero, false_and, true_and, and_true, and_false, Nat.reduceLeDiff, Nat.reduceEqDiff, Nat.reduceLT, Bool.toNat_true, Bool.toNat_false, decide_true, decide_false, Bool.not_true, Bool.not_false, Bool.false_and, Bool.true_and, Bool.and_true, Bool.and_false, Bool.or_false, Bool.true_or, Bool.or_true, Bool.false_or, Nat.le_refl]
/-! depth, how many below -/
def dpN (N : Row) (s : Nat) : Nat := cntN (fun t => us N t && An N s t) 20
theorem dp_0 (h : WFt N) : dpN N 0 = 1 := by
  unfold dpN
  rw [cnt_del (a := 0) (by omega), us_0 h, An_refl, cntN_0 (fun t _ => by
    rw [An_0]
    by_cases h0 : t = 0
    · subst h0; simp
    · rw [beq_no (fun e => h0 e.symm)]; simp)]
  rfl
theorem dp_s (h : WFt N) {s : Nat} (h0 : 0 < s) (hs : s < 20) (hu : us N s = true) : dpN N s = dpN N (pa N s) + 1 := by
  obtain ⟨r, r1, r2, r3⟩ := rank20 h
  obtain ⟨-, h6, h7⟩ := h.2.2.2.1 s h0 hs hu
  have hna : An N (pa N s) s = false := by
    cases ha : An N (pa N s) s with
    | false => rfl
    | true =>
      have h2 : An N s (pa N s) = true := by rw [An_s h h0 hs hu, An_refl, Bool.or_true]
      have := An_anti h hs hu h2 ha
      have := r2 s h0 hs hu
      rw [← ‹s = pa N s›] at this
      omega
  unfold dpN
  rw [cnt_del (a := s) hs, hu, An_refl]
  congr 1
  refine cntN_c fun t ht => ?_
  rw [An_s h h0 hs hu]
  by_cases hts : t = s
  · subst hts; rw [hna]; simp
  · rw [beq_no (fun e => hts e.symm), decide_eq_false hts]; simp
theorem dp_pos (h : WFt N) {s : Nat} (hs : s < 20) (hu : us N s = true) : 0 < dpN N s ∧ dpN N s ≤ 20 := by
  refine ⟨?_, cntN_le _ _⟩
  by_cases h0 : s = 0
  · subst h0; rw [dp_0 h]; omega
  · rw [dp_s h (by omega) hs hu]; omega
theorem m_depth {M : Mem} (h : WFt (M.1 7 1)) {s : Nat} (hs : s < 20) (hu : us (M.1 7 1) s = true) : f_X9_depth (nI s) M = some (nI (dpN (M.1 7 1) s - 1)) := by
  obtain ⟨r, hr1, hr2, hr3⟩ := rank20 h
  have key : ∀ n s a, s < 20 → us (M.1 7 1) s = true → r s < n → L_X9_depth_4 M n (nI a) (nI s) = some (nI (a + dpN (M.1 7 1) s - 1)) := by
    intro n
    induction n with
    | zero => intro s a h1 h2 h3; omega
    | succ n ih =>
      intro s a h1 h2 h3
      rw [L_X9_depth_4]
      by_cases h0 : s = 0
      · subst h0
        have h22 : M.1 7 1 22 = mI := h.2.2.1
        rw [dp_0 h, show a + 1 - 1 = a by omega]
        simp (disch := omega) only [↓ite_b2r, ↓ite_nb2r, ↓lit_m1, ↓lit_m2, lit_0, lit_1, lit_2, lit_3, lit_4, lit_5, lit_6, lit_7, lit_8, lit_9, lit_10, lit_11, lit_12, lit_13, lit_14, lit_15, lit_16, lit_17, lit_18, lit_19, lit_20, lit_21, lit_22, lit_23, lit_24, lit_25, lit_26, lit_27, lit_28, lit_29, lit_30, lit_31, lit_32, lit_33, lit_34, lit_35, lit_36, lit_40, lit_41, lit_42, lit_44, lit_48, lit_57, lit_59, lit_62, lit_63, lit_64, lit_82, lit_98, lit_99, lit_100, lit_101, lit_102, lit_103, lit_104, lit_105, lit_106, lit_107, lit_108, lit_109, lit_110, lit_111, lit_112, lit_113, lit_119, lit_120, lit_127, lit_128, lit_149, lit_150, lit_202, lit_240, lit_262, lit_894, lit_900, lit_999, lit_1000, lit_2000, lit_2662, lit_2663, lit_2695, lit_2701, lit_2702, lit_3602, lit_10806, nI_add, pk_mul, cl_nI, inb_nI, nI_leI, nI_ltI, nI_eq, nI_eq_m1, m1_eq_nI, nI_eq_m2, div_nI, rem_nI, Option.bind_some, b2_0, b2_1, isb_b2, if_true_, if_false_, ↓reduceIte, reduceCtorEq, not_true_eq_false, not_false_eq_true, bt_hasBit, ult, Nat.add_zero, false_and, true_and, and_true, and_false, Nat.reduceLeDiff, Nat.reduceEqDiff, Nat.reduceLT, Bool.toNat_true, Bool.toNat_false, decide_true, decide_false, Bool.not_true, Bool.not_false, Bool.false_and, Bool.true_and, Bool.and_true, Bool.and_false, Bool.or_false, Bool.true_or, Bool.or_true, Bool.false_or, h22]
      · obtain ⟨h4, h5, h6⟩ := h.2.2.2.1 s (by omega) h1 h2
        have h7 := hr2 s (by omega) h1 h2
        have := ih (pa (M.1 7 1) s) (a + 1) h5 h6 (by omega)
        simp (disch := omega) only [↓ite_b2r, ↓ite_nb2r, ↓lit_m1, ↓lit_m2, lit_0, lit_1, lit_2, lit_3, lit_4, lit_5, lit_6, lit_7, lit_8, lit_9, lit_10, lit_11, lit_12, lit_13, lit_14, lit_15, lit_16, lit_17, lit_18, lit_19, lit_20, lit_21, lit_22, lit_23, lit_24, lit_25, lit_26, lit_27, lit_28, lit_29, lit_30, lit_31, lit_32, lit_33, lit_34, lit_35, lit_36, lit_40, lit_41, lit_42, lit_44, lit_48, lit_57, lit_59, lit_62, lit_63, lit_64, lit_82, lit_98, lit_99, lit_100, lit_101, lit_102, lit_103, lit_104, lit_105, lit_106, lit_107, lit_108, lit_109, lit_110, lit_111, lit_112, lit_113, lit_119, lit_120, lit_127, lit_128, lit_149, lit_150, lit_202, lit_240, lit_262, lit_894, lit_900, lit_999, lit_1000, lit_2000, lit_2662, lit_2663, lit_2695, lit_2701, lit_2702, lit_3602, lit_10806, nI_add, pk_mul, cl_nI, inb_nI, nI_leI, nI_ltI, nI_eq, nI_eq_m1, m1_eq_nI, nI_eq_m2, div_nI, rem_nI, Option.bind_some, b2_0, b2_1, isb_b2, if_true_, if_false_, ↓reduceIte, reduceCtorEq, not_true_eq_false, not_false_eq_true, bt_hasBit, ult, Nat.add_zero, false_and, true_and, and_true, and_false, Nat.reduceLeDiff, Nat.reduceEqDiff, Nat.reduceLT, Bool.toNat_true, Bool.toNat_false, decide_true, decide_false, Bool.not_true, Bool.not_false, Bool.false_and, Bool.true_and, Bool.and_true, Bool.and_false, Bool.or_false, Bool.true_or, Bool.or_true, Bool.false_or, h4, this]
        rw [dp_s h (by omega) h1 h2]
        congr 2
        omega
  unfold f_X9_depth
  have := key FU s 0 hs hu (by have := hr1 s hs hu; unfold FU; omega)
  rw [Nat.zero_add] at this
  exact this
theorem c_depthOf (hN : WFt N) (ht : RDt (M.1 g) N) {s : Nat} (hs : s < 20) (hu : us N s = true) : f_X7_depthOf g (nI s) M = some (nI (dpN N s - 1)) := by
  obtain ⟨d1, d2⟩ := dp_pos hN hs hu
  have hb := fun t (h : t < 32) => ht.2.2.2.2.2 s hs t h
  unfold f_X7_depthOf
  rw [c_lineageOf, Option.bind_some, rowAt_nI hs (by omega), bitCount_bt (fun i h1 h2 => by rw [hb i h2, decide_eq_false (by omega)]; rfl)]
  have e : cntN (bt (M.1 g 7 s)) 20 = dpN N s := cntN_c fun t h => by rw [hb t (by omega), decide_eq_true h, hu, Bool.true_and, Bool.true_and]
  rw [e]
  exact congrArg some (pk_sub d1)
def blN (N : Row) (t : Nat) : Nat := cntN (fun s => us N s && (!decide (s = t) && An N s t)) 20
theorem m_below {M : Mem} (h : WFt (M.1 7 1)) {t : Nat} (ht : t < 20) : f_X9_below (nI t) M = some (nI (blN (M.1 7 1) t)) := by
  unfold f_X9_below blN
  refine loop (fun n (σ : Int32 × Int32) => L_X9_below_4 (nI t) M n σ.1 σ.2) (fun i => (nI (cntN (fun s => us (M.1 7 1) s && (!decide (s = t) && An (M.1 7 1) s t)) i), nI i)) 20 (fun n i hi => ?_) (fun n => ?_) FU (by decide)
  · show L_X9_below_4 (nI t) M (n + 1) _ _ = L_X9_below_4 (nI t) M n _ _
    rw [L_X9_below_4, cntN_s]
    unfold B_X9_below_41 B_X9_below_42
    cases hu : us (M.1 7 1) i with
    | false => simp (disch := omega) only [↓ite_b2r, ↓ite_nb2r, ↓lit_m1, ↓lit_m2, lit_0, lit_1, lit_2, lit_3, lit_4, lit_5, lit_6, lit_7, lit_8, lit_9, lit_10, lit_11, lit_12, lit_13, lit_14, lit_15, lit_16, lit_17, lit_18, lit_19, lit_20, lit_21, lit_22, lit_23, lit_24, lit_25, lit_26, lit_27, lit_28, lit_29, lit_30, lit_31, lit_32, lit_33, lit_34, lit_35, lit_36, lit_40, lit_41, lit_42, lit_44, lit_48, lit_57, lit_59, lit_62, lit_63, lit_64, lit_82, lit_98, lit_99, lit_100, lit_101, lit_102, lit_103, lit_104, lit_105, lit_106, lit_107, lit_108, lit_109, lit_110, lit_111, lit_112, lit_113, lit_119, lit_120, lit_127, lit_128, lit_149, lit_150, lit_202, lit_240, lit_262, lit_894, lit_900, lit_999, lit_1000, lit_2000, lit_2662, lit_2663, lit_2695, lit_2701, lit_2702, lit_3602, lit_10806, nI_add, pk_mul, cl_nI, inb_nI, nI_leI, nI_ltI, nI_eq, nI_eq_m1, m1_eq_nI, nI_eq_m2, div_nI, rem_nI, Option.bind_some, b2_0, b2_1, isb_b2, if_true_, if_false_, ↓reduceIte, reduceCtorEq, not_true_eq_false, not_false_eq_true, bt_hasBit, ult, Nat.add_zero, false_and, true_and, and_true, and_false, Nat.reduceLeDiff, Nat.reduceEqDiff, Nat.reduceLT, Bool.toNat_true, Bool.toNat_false, decide_true, decide_false, Bool.not_true, Bool.not_false, Bool.false_and, Bool.true_and, Bool.and_true, Bool.and_false, Bool.or_false, Bool.true_or, Bool.or_true, Bool.false_or, Nat.not_le.mpr hi, (us_f h hi).mp hu]
    | true =>
      by_cases hit : i = t
      · subst hit
        simp (disch := omega) only [↓ite_b2r, ↓ite_nb2r, ↓lit_m1, ↓lit_m2, lit_0, lit_1, lit_2, lit_3, lit_4, lit_5, lit_6, lit_7, lit_8, lit_9, lit_10, lit_11, lit_12, lit_13, lit_14, lit_15, lit_16, lit_17, lit_18, lit_19, lit_20, lit_21, lit_22, lit_23, lit_24, lit_25, lit_26, lit_27, lit_28, lit_29, lit_30, lit_31, lit_32, lit_33, lit_34, lit_35, lit_36, lit_40, lit_41, lit_42, lit_44, lit_48, lit_57, lit_59, lit_62, lit_63, lit_64, lit_82, lit_98, lit_99, lit_100, lit_101, lit_102, lit_103, lit_104, lit_105, lit_106, lit_107, lit_108, lit_109, lit_110, lit_111, lit_112, lit_113, lit_119, lit_120, lit_127, lit_128, lit_149, lit_150, lit_202, lit_240, lit_262, lit_894, lit_900, lit_999, lit_1000, lit_2000, lit_2662, lit_2663, lit_2695, lit_2701, lit_2702, lit_3602, lit_10806, nI_add, pk_mul, cl_nI, inb_nI, nI_leI, nI_ltI, nI_eq, nI_eq_m1, m1_eq_nI, nI_eq_m2, div_nI, rem_nI, Option.bind_some, b2_0, b2_1, isb_b2, if_true_, if_false_, ↓reduceIte, reduceCtorEq, not_true_eq_false, not_false_eq_true, bt_hasBit, ult, Nat.add_zero, false_and, true_and, and_true, and_false, Nat.reduceLeDiff, Nat.reduceEqDiff, Nat.reduceLT, Bool.toNat_true, Bool.toNat_false, decide_true, decide_false, Bool.not_true, Bool.not_false, Bool.false_and, Bool.true_and, Bool.and_true, Bool.and_false, Bool.or_false, Bool.true_or, Bool.or_true, Bool.false_or, Nat.not_le.mpr hi, us_t.mp hu]
      · have mi := m_isIn h hi hu ht
        cases ha : An (M.1 7 1) i t with
        | false => rw [ha] at mi; simp (disch := omega) only [↓ite_b2r, ↓ite_nb2r, ↓lit_m1, ↓lit_m2, lit_0, lit_1, lit_2, lit_3, lit_4, lit_5, lit_6, lit_7, lit_8, lit_9, lit_10, lit_11, lit_12, lit_13, lit_14, lit_15, lit_16, lit_17, lit_18, lit_19, lit_20, lit_21, lit_22, lit_23, lit_24, lit_25, lit_26, lit_27, lit_28, lit_29, lit_30, lit_31, lit_32, lit_33, lit_34, lit_35, lit_36, lit_40, lit_41, lit_42, lit_44, lit_48, lit_57, lit_59, lit_62, lit_63, lit_64, lit_82, lit_98, lit_99, lit_100, lit_101, lit_102, lit_103, lit_104, lit_105, lit_106, lit_107, lit_108, lit_109, lit_110, lit_111, lit_112, lit_113, lit_119, lit_120, lit_127, lit_128, lit_149, lit_150, lit_202, lit_240, lit_262, lit_894, lit_900, lit_999, lit_1000, lit_2000, lit_2662, lit_2663, lit_2695, lit_2701, lit_2702, lit_3602, lit_10806, nI_add, pk_mul, cl_nI, inb_nI, nI_leI, nI_ltI, nI_eq, nI_eq_m1, m1_eq_nI, nI_eq_m2, div_nI, rem_nI, Option.bind_some, b2_0, b2_1, isb_b2, if_true_, if_false_, ↓reduceIte, reduceCtorEq, not_true_eq_false, not_false_eq_true, bt_hasBit, ult, Nat.add_zero, false_and, true_and, and_true, and_false, Nat.reduceLeDiff, Nat.reduceEqDiff, Nat.reduceLT, Bool.toNat_true, Bool.toNat_false, decide_true, decide_false, Bool.not_true, Bool.not_false, Bool.false_and, Bool.true_and, Bool.and_true, Bool.and_false, Bool.or_false, Bool.true_or, Bool.or_true, Bool.false_or, Nat.not_le.mpr hi, us_t.mp hu, hit, mi]
        | true => rw [ha] at mi; simp (disch := omega) only [↓ite_b2r, ↓ite_nb2r, ↓lit_m1, ↓lit_m2, lit_0, lit_1, lit_2, lit_3, lit_4, lit_5, lit_6, lit_7, lit_8, lit_9, lit_10, lit_11, lit_12, lit_13, lit_14, lit_15, lit_16, lit_17, lit_18, lit_19, lit_20, lit_21, lit_22, lit_23, lit_24, lit_25, lit_26, lit_27, lit_28, lit_29, lit_30, lit_31, lit_32, lit_33, lit_34, lit_35, lit_36, lit_40, lit_41, lit_42, lit_44, lit_48, lit_57, lit_59, lit_62, lit_63, lit_64, lit_82, lit_98, lit_99, lit_100, lit_101, lit_102, lit_103, lit_104, lit_105, lit_106, lit_107, lit_108, lit_109, lit_110, lit_111, lit_112, lit_113, lit_119, lit_120, lit_127, lit_128, lit_149, lit_150, lit_202, lit_240, lit_262, lit_894, lit_900, lit_999, lit_1000, lit_2000, lit_2662, lit_2663, lit_2695, lit_2701, lit_2702, lit_3602, lit_10806, nI_add, pk_mul, cl_nI, inb_nI, nI_leI, nI_ltI, nI_eq, nI_eq_m1, m1_eq_nI, nI_eq_m2, div_nI, rem_nI, Option.bind_some, b2_0, b2_1, isb_b2, if_true_, if_false_, ↓reduceIte, reduceCtorEq, not_true_eq_false, not_false_eq_true, bt_hasBit, ult, Nat.add_zero, false_and, true_and, and_true, and_false, Nat.reduceLeDiff, Nat.reduceEqDiff, Nat.reduceLT, Bool.toNat_true, Bool.toNat_false, decide_true, decide_false, Bool.not_true, Bool.not_false, Bool.false_and, Bool.true_and, Bool.and_true, Bool.and_false, Bool.or_false, Bool.true_or, Bool.or_true, Bool.false_or, Nat.not_le.mpr hi, us_t.mp hu, hit, mi]
  · show L_X9_below_4 (nI t) M (n + 1) _ _ = _
    rw [L_X9_below_4]
    simp (disch := omega) only [↓ite_b2r, ↓ite_nb2r, ↓lit_m1, ↓lit_m2, lit_0, lit_1, lit_2, lit_3, lit_4, lit_5, lit_6, lit_7, lit_8, lit_9, lit_10, lit_11, lit_12, lit_13, lit_14, lit_15, lit_16, lit_17, lit_18, lit_19, lit_20, lit_21, lit_22, lit_23, lit_24, lit_25, lit_26, lit_27, lit_28, lit_29, lit_30, lit_31, lit_32, lit_33, lit_34, lit_35, lit_36, lit_40, lit_41, lit_42, lit_44, lit_48, lit_57, lit_59, lit_62, lit_63, lit_64, lit_82, lit_98, lit_99, lit_100, lit_101, lit_102, lit_103, lit_104, lit_105, lit_106, lit_107, lit_108, lit_109, lit_110, lit_111, lit_112, lit_113, lit_119, lit_120, lit_127, lit_128, lit_149, lit_150, lit_202, lit_240, lit_262, lit_894, lit_900, lit_999, lit_1000, lit_2000, lit_2662, lit_2663, lit_2695, lit_2701, lit_2702, lit_3602, lit_10806, nI_add, pk_mul, cl_nI, inb_nI, nI_leI, nI_ltI, nI_eq, nI_eq_m1, m1_eq_nI, nI_eq_m2, div_nI, rem_nI, Option.bind_some, b2_0, b2_1, isb_b2, if_true_, if_false_, ↓reduceIte, reduceCtorEq, not_true_eq_false, not_false_eq_true, bt_hasBit, ult, Nat.add_zero, false_and, true_and, and_true, and_false, Nat.reduceLeDiff, Nat.reduceEqDiff, Nat.reduceLT, Bool.toNat_true, Bool.toNat_false, decide_true, decide_false, Bool.not_true, Bool.not_false, Bool.false_and, Bool.true_and, Bool.and_true, Bool.and_false, Bool.or_false, Bool.true_or, Bool.or_true, Bool.false_or, Nat.le_refl]
theorem c_subCount (ht : RDt (M.1 g) N) {t : Nat} (ht20 : t < 20) (hu : us N t = true) : f_J6_bitCount_0f7a4 (M.1 g 6 t) = nI (blN N t + 1) := by
  have hb := fun s (h : s < 32) => ht.2.2.2.2.1 t ht20 s h
  rw [bitCount_bt (fun i h1 h2 => by rw [hb i h2, decide_eq_false (by omega)]; rfl)]
  congr 1
  rw [cntN_c (q := fun s => us N s && An N s t) (fun s h => by rw [hb s (by omega), decide_eq_true h, hu, Bool.true_and, Bool.true_and]), cnt_del (a := t) ht20, hu, An_refl]
  unfold blN
  congr 1
  exact cntN_c fun s _ => by cases us N s <;> cases An N s t <;> cases decide (s = t) <;> rfl
end TR
