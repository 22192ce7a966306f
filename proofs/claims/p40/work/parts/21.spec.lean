/-! ===== the picture: a row of the reference holds the whole state; what it means, and what always holds of it ===== -/
abbrev Row : Type := Nat → Int32
def isV (N : Row) (k b : Nat) : Prop := N k = nI (cl (N k)) ∧ cl (N k) < b
def us (N : Row) (s : Nat) : Bool := decide (N (2 + s) = nI 1)
def pa (N : Row) (s : Nat) : Nat := cl (N (22 + s))
def anF (N : Row) : Nat → Nat → Nat → Bool
  | 0, s, t => s == t
  | f + 1, s, t => s == t || (s != 0 && anF N f (pa N s) t)
/-- a section is another one or lies below it -/
def An (N : Row) (s t : Nat) : Bool := anF N 20 s t
def Ov (N : Row) (s t : Nat) : Bool := An N s t || An N t s
def ck (N : Row) (c : Nat) : Bool := decide (N (202 + 6 * c) = nI 1)
def usr (N : Row) (c : Nat) : Nat := cl (N (202 + 6 * c + 1))
def sec (N : Row) (c : Nat) : Nat := cl (N (202 + 6 * c + 2))
def hd (N : Row) (c : Nat) : Bool := decide (N (202 + 6 * c + 4) = nI 1)
def sh (N : Row) (c : Nat) : Bool := decide (N (202 + 6 * c + 5) = nI 1)
def hel (N : Row) (c : Nat) : Bool := ck N c && hd N c
def wq (N : Row) : Nat := cl (N 2662)
def wus (N : Row) (k : Nat) : Nat := cl (N (2663 + 4 * k))
def wse (N : Row) (k : Nat) : Nat := cl (N (2663 + 4 * k + 1))
def wti (N : Row) (k : Nat) : Nat := cl (N (2663 + 4 * k + 2))
def wsh (N : Row) (k : Nat) : Bool := decide (N (2663 + 4 * k + 3) = nI 1)
def hn (N : Row) : Nat := cl (N 2701)
def WFt (N : Row) : Prop :=
  (∀ s, s < 20 → N (2 + s) = nI 0 ∨ N (2 + s) = nI 1) ∧ N 2 = nI 1 ∧ N 22 = mI ∧
  (∀ s, 0 < s → s < 20 → us N s = true → N (22 + s) = nI (pa N s) ∧ pa N s < 20 ∧ us N (pa N s) = true) ∧
  (∃ r : Nat → Nat, ∀ s, 0 < s → s < 20 → us N s = true → r (pa N s) < r s) ∧
  isV N 1 1073741824 ∧ (∀ s, 0 < s → s < 20 → us N s = true → isV N (42 + s) (cl (N 1))) ∧
  (∀ s s', 0 < s → s < 20 → us N s = true → 0 < s' → s' < 20 → us N s' = true → N (42 + s) = N (42 + s') → s = s')
def WFc (N : Row) : Prop :=
  isV N 0 1073741824 ∧
  (∀ c, c < 10 → isV N (202 + 6 * c) 2 ∧ isV N (202 + 6 * c + 1) 6 ∧ isV N (202 + 6 * c + 4) 2 ∧ isV N (202 + 6 * c + 5) 2 ∧
    (ck N c = true → isV N (202 + 6 * c + 2) 20 ∧ us N (sec N c) = true ∧ (sh N c = true → hd N c = true)) ∧
    (hel N c = true → N (202 + 6 * c + 3) = nI (cl (N (202 + 6 * c + 3))) ∧ cl (N 0) < cl (N (202 + 6 * c + 3)) ∧ cl (N (202 + 6 * c + 3)) ≤ cl (N 0) + 1000))
def WFl (N : Row) : Prop := (∀ k, k < 120 → isV N (82 + k) 1000) ∧ (∀ k, k < 2400 → isV N (262 + k) 1000)
def WFq (N : Row) : Prop :=
  isV N 2662 9 ∧ (∀ k, k < wq N → isV N (2663 + 4 * k) 6 ∧ isV N (2663 + 4 * k + 1) 20 ∧ us N (wse N k) = true ∧ isV N (2663 + 4 * k + 2) 1001 ∧ 0 < wti N k ∧ isV N (2663 + 4 * k + 3) 2) ∧
  (∀ k k', k < wq N → k' < wq N → wus N k = wus N k' → k = k')
def WFu (N : Row) : Prop := ∀ u, u < 6 → isV N (2695 + u) (10 * cl (N 0) + 1)
def WFh (N : Row) : Prop :=
  isV N 2701 151 ∧ (∀ e, e < hn N → isV N (2702 + 6 * e + 1) 20 ∧ isV N (2702 + 6 * e + 2) 6 ∧ isV N (2702 + 6 * e + 3) 1000)
def WF (N : Row) : Prop := WFt N ∧ WFc N ∧ WFl N ∧ WFq N ∧ WFu N ∧ WFh N
theorem us_t {N : Row} {s : Nat} : us N s = true ↔ N (2 + s) = nI 1 := decide_eq_true_iff
theorem us_f {N : Row} (h : WFt N) {s : Nat} (hs : s < 20) : us N s = false ↔ N (2 + s) = nI 0 := by
  unfold us
  rw [decide_eq_false_iff_not]
  rcases h.1 s hs with e | e <;> rw [e] <;> simp (disch := omega) only [↓ite_b2r, ↓ite_nb2r, ↓lit_m1, ↓lit_m2, lit_0, lit_1, lit_2, lit_3, lit_4, lit_5, lit_6, lit_7, lit_8, lit_9, lit_10, lit_11, lit_12, lit_13, lit_14, lit_15, lit_16, lit_17, lit_18, lit_19, lit_20, lit_21, lit_22, lit_23, lit_24, lit_25, lit_26, lit_27, lit_28, lit_29, lit_30, lit_31, lit_32, lit_33, lit_34, lit_35, lit_36, lit_40, lit_41, lit_42, lit_44, lit_48, lit_57, lit_59, lit_62, lit_63, lit_64, lit_82, lit_98, lit_99, lit_100, lit_101, lit_102, lit_103, lit_104, lit_105, lit_106, lit_107, lit_108, lit_109, lit_110, lit_111, lit_112, lit_113, lit_119, lit_120, lit_127, lit_128, lit_149, lit_150, lit_202, lit_240, lit_262, lit_894, lit_900, lit_999, lit_1000, lit_2000, lit_2662, lit_2663, lit_2695, lit_2701, lit_2702, lit_3602, lit_10806, nI_add, pk_mul, cl_nI, inb_nI, nI_leI, nI_ltI, nI_eq, nI_eq_m1, m1_eq_nI, nI_eq_m2, div_nI, rem_nI, Option.bind_some, b2_0, b2_1, isb_b2, if_true_, if_false_, ↓reduceIte, reduceCtorEq, not_true_eq_false, not_false_eq_true, bt_hasBit, ult, Nat.add_zero, false_and, true_and, and_true, and_false, Nat.reduceLeDiff, Nat.reduceEqDiff, Nat.reduceLT, Bool.toNat_true, Bool.toNat_false, decide_true, decide_false, Bool.not_true, Bool.not_false, Bool.false_and, Bool.true_and, Bool.and_true, Bool.and_false, Bool.or_false, Bool.true_or, Bool.or_true, Bool.false_or] <;> simp
theorem us_0 {N : Row} (h : WFt N) : us N 0 = true := us_t.mpr h.2.1
/-- a rank below 20: how many sections in use lie below in an order -/
theorem rank20 {N : Row} (h : WFt N) : ∃ r : Nat → Nat, (∀ s, s < 20 → us N s = true → r s < 20) ∧ (∀ s, 0 < s → s < 20 → us N s = true → r (pa N s) < r s) ∧ r 0 = 0 := by
  obtain ⟨r, hr⟩ := h.2.2.2.2.1
  have h0 : ∀ s, s < 20 → us N s = true → s ≠ 0 → ∃ k, k < 20 ∧ r (pa N s) < r s ∧ pa N s = k := fun s h1 h2 h3 => ⟨pa N s, (h.2.2.2.1 s (by omega) h1 h2).2.1, hr s (by omega) h1 h2, rfl⟩
  -- every section in use has the root below it or is it: ranks above the root's
  have hroot : ∀ n s, r s ≤ n → s < 20 → us N s = true → r 0 ≤ r s := by
    intro n
    induction n with
    | zero =>
      intro s hs h1 h2
      by_cases hs0 : s = 0
      · subst hs0; exact Nat.le_refl _
      · have := hr s (by omega) h1 h2
        omega
    | succ n ih =>
      intro s hs h1 h2
      by_cases hs0 : s = 0
      · subst hs0; exact Nat.le_refl _
      · have h3 := hr s (by omega) h1 h2
        obtain ⟨-, h4, h5⟩ := h.2.2.2.1 s (by omega) h1 h2
        have := ih (pa N s) (by omega) h4 h5
        omega
  refine ⟨fun s => cntN (fun t => us N t && decide (r t < r s)) 20, fun s h1 h2 => ?_, fun s h1 h2 h3 => ?_, ?_⟩
  · have hlt := cntN_lt (p := fun t => us N t && decide (r t < r s)) (q := fun t => true) (n := 20) (fun _ _ _ => rfl) ⟨s, h1, by simp, rfl⟩
    exact Nat.lt_of_lt_of_le hlt (cntN_le _ 20)
  · refine cntN_lt (fun k hk hp => ?_) ⟨pa N s, (h.2.2.2.1 s h1 h2 h3).2.1, by simp, ?_⟩
    · have h4 := hr s h1 h2 h3
      simp only [Bool.and_eq_true, decide_eq_true_eq] at hp ⊢
      exact ⟨hp.1, by omega⟩
    · simp only [Bool.and_eq_true, decide_eq_true_eq]
      exact ⟨(h.2.2.2.1 s h1 h2 h3).2.2, hr s h1 h2 h3⟩
  · have : ∀ n, n ≤ 20 → cntN (fun t => us N t && decide (r t < r 0)) n = 0 := by
      intro n
      induction n with
      | zero => intro _; rfl
      | succ n ih =>
        intro hn
        rw [cntN, ih (by omega)]
        cases hu : us N n with
        | false => rfl
        | true =>
          have := hroot (r n) n (Nat.le_refl _) (by omega) hu
          simp [Nat.not_lt.mpr this]
    exact this 20 (Nat.le_refl _)
theorem anF_st {N : Row} (h : WFt N) {r : Nat → Nat} (hr : ∀ s, 0 < s → s < 20 → us N s = true → r (pa N s) < r s) : ∀ (f f' s t : Nat), s < 20 → us N s = true → r s ≤ f → r s ≤ f' → anF N f s t = anF N f' s t := by
  intro f
  induction f with
  | zero =>
    intro f' s t h1 h2 h3 h4
    have h0 : s = 0 := by
      by_cases h0 : s = 0
      · exact h0
      · have := hr s (by omega) h1 h2
        omega
    subst h0
    cases f' <;> simp [anF]
  | succ f ih =>
    intro f' s t h1 h2 h3 h4
    by_cases h0 : s = 0
    · subst h0
      cases f' <;> simp [anF]
    · have h5 := hr s (by omega) h1 h2
      obtain ⟨-, h6, h7⟩ := h.2.2.2.1 s (by omega) h1 h2
      cases f' with
      | zero => omega
      | succ f' =>
        show (s == t || (s != 0 && anF N f (pa N s) t)) = (s == t || (s != 0 && anF N f' (pa N s) t))
        rw [ih f' (pa N s) t h6 h7 (by omega) (by omega)]
theorem An_0 {N : Row} (t : Nat) : An N 0 t = (0 == t) := by simp [An, anF]
theorem An_s {N : Row} (h : WFt N) {s t : Nat} (h0 : 0 < s) (hs : s < 20) (hu : us N s = true) : An N s t = (s == t || An N (pa N s) t) := by
  obtain ⟨r, h1, h2, h3⟩ := rank20 h
  obtain ⟨-, h6, h7⟩ := h.2.2.2.1 s h0 hs hu
  show (s == t || (s != 0 && anF N 19 (pa N s) t)) = _
  rw [anF_st h h2 19 20 (pa N s) t h6 h7 (by have := h1 _ h6 h7; omega) (by have := h1 _ h6 h7; omega), show (s != 0) = true by simp; omega, Bool.true_and]
  rfl
theorem An_refl {N : Row} (s : Nat) : An N s s = true := by simp [An, anF]
/-- walking up from a section -/
theorem up_ind {N : Row} (h : WFt N) (P : Nat → Prop) (h0 : P 0) (h1 : ∀ s, 0 < s → s < 20 → us N s = true → P (pa N s) → P s) : ∀ s, s < 20 → us N s = true → P s := by
  obtain ⟨r, -, h2, -⟩ := rank20 h
  have key : ∀ n s, r s ≤ n → s < 20 → us N s = true → P s := by
    intro n
    induction n with
    | zero =>
      intro s hs h3 h4
      by_cases hs0 : s = 0
      · subst hs0; exact h0
      · have := h2 s (by omega) h3 h4
        omega
    | succ n ih =>
      intro s hs h3 h4
      by_cases hs0 : s = 0
      · subst hs0; exact h0
      · have h5 := h2 s (by omega) h3 h4
        obtain ⟨-, h6, h7⟩ := h.2.2.2.1 s (by omega) h3 h4
        exact h1 s (by omega) h3 h4 (ih _ (by omega) h6 h7)
  exact fun s => key (r s) s (Nat.le_refl _)
theorem An_tr {N : Row} (h : WFt N) {t u : Nat} : ∀ s, s < 20 → us N s = true → An N s t = true → An N t u = true → An N s u = true := by
  intro s hs hu h1 h2
  refine up_ind h (fun s => An N s t = true → An N s u = true) ?_ ?_ s hs hu h1
  · intro h3
    rw [An_0, beq_iff_eq] at h3
    subst h3
    exact h2
  · intro s h3 h4 h5 ih h6
    rw [An_s h h3 h4 h5, Bool.or_eq_true, beq_iff_eq] at h6
    rcases h6 with h6 | h6
    · rw [h6]; exact h2
    · rw [An_s h h3 h4 h5, ih h6, Bool.or_true]
/-- what a section lies below is in use -/
theorem An_us {N : Row} (h : WFt N) {t : Nat} : ∀ s, s < 20 → us N s = true → An N s t = true → t < 20 ∧ us N t = true := by
  intro s hs hu
  refine up_ind h (fun s => An N s t = true → t < 20 ∧ us N t = true) ?_ ?_ s hs hu
  · intro h1
    rw [An_0, beq_iff_eq] at h1
    subst h1
    exact ⟨by decide, us_0 h⟩
  · intro s h1 h2 h3 ih h4
    rw [An_s h h1 h2 h3, Bool.or_eq_true, beq_iff_eq] at h4
    rcases h4 with h4 | h4
    · subst h4; exact ⟨h2, h3⟩
    · exact ih h4
theorem An_root {N : Row} (h : WFt N) : ∀ s, s < 20 → us N s = true → An N s 0 = true :=
  up_ind h (fun s => An N s 0 = true) (An_refl 0) (fun s h1 h2 h3 ih => by rw [An_s h h1 h2 h3, ih, Bool.or_true])
theorem An_anti {N : Row} (h : WFt N) {s t : Nat} (hs : s < 20) (hu : us N s = true) (h1 : An N s t = true) (h2 : An N t s = true) : s = t := by
  obtain ⟨r, -, hr, -⟩ := rank20 h
  have key : ∀ s, s < 20 → us N s = true → ∀ t, An N s t = true → s = t ∨ r t < r s := by
    intro s hs hu t
    refine up_ind h (fun s => An N s t = true → s = t ∨ r t < r s) ?_ ?_ s hs hu
    · intro h1
      rw [An_0, beq_iff_eq] at h1
      exact Or.inl h1
    · intro s h1 h2 h3 ih h4
      rw [An_s h h1 h2 h3, Bool.or_eq_true, beq_iff_eq] at h4
      rcases h4 with h4 | h4
      · exact Or.inl h4
      · have := hr s h1 h2 h3
        rcases ih h4 with h5 | h5
        · rw [← h5]; exact Or.inr this
        · exact Or.inr (by omega)
  obtain ⟨ht, hut⟩ := An_us h s hs hu h1
  rcases key s hs hu t h1 with h3 | h3
  · exact h3
  · rcases key t ht hut s h2 with h4 | h4
    · exact h4.symm
    · omega
