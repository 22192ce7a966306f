/-! ===== giving back, requesting, writing, time ===== -/
section KD
variable {k : Nat} {M : Mem}
/-- one line is written -/
def wrK (N : Row) (m : Nat) (v : Int32) : Nat → Int32 := fun k => if k = m then v else lin N k
def wriS (N : Row) (m : Nat) (v : Int32) : Row := (becS (wrK N m v) mI (0, N) 20).2
theorem wrK_v {N : Row} (h : WFl N) {m w : Nat} (hw : w < 1000) {k : Nat} (hk : k < 120) : wrK N m (nI w) k = nI (cl (wrK N m (nI w) k)) ∧ cl (wrK N m (nI w) k) < 1000 := by
  unfold wrK
  by_cases h2 : k = m
  · rw [if_pos h2, cl_nI (by omega)]; exact ⟨rfl, hw⟩
  · rw [if_neg h2]; exact h.1 k hk
theorem bec_lo {N : Row} (h : WFa N) (T : Nat → Int32) (u : Int32) : eqR 0 62 (becS T u (0, N) 20).2 N := (BI_bec (T := T) (u := u) h.1.2.2.1.1 h.1.2.2.2.2.2 20 (by omega)).1
/-! time -/
theorem stp_m (N : Row) : stp mI N = false := by unfold stp; rw [decide_eq_true rfl]; rfl
theorem wF_s {x : Int32} : ∀ n N, (∀ i, i < n → stp x (wF x i N) = false) → wF x (n + 1) N = if stp x (wF x n N) = true then wF x n N else tickS (wF x n N)
  | 0, N, _ => rfl
  | n + 1, N, h => by
    have h0 : stp x N = false := h 0 (by omega)
    have e : ∀ j, wF x (j + 1) N = wF x j (tickS N) := fun j => by
      show (if stp x N = true then N else wF x j (tickS N)) = _
      rw [h0, if_neg (by decide)]
    rw [e (n + 1), wF_s n (tickS N) (fun i hi => by rw [← e i]; exact h (i + 1) (by omega)), ← e n]
def pasS (n : Nat) (N : Row) : Row := wF mI n N
theorem pasS_s (n : Nat) (N : Row) : pasS (n + 1) N = tickS (pasS n N) := by
  unfold pasS
  rw [wF_s n N (fun i _ => stp_m _), stp_m, if_neg (by decide)]
theorem tickS_1 {N : Row} (h : WFa N) (hb : cl (N 0) + 1 < 134217728) : tickS N 1 = N 1 := by
  unfold tickS
  rw [addU_o (by omega), srvS_o (WFa_age h (by omega)) (by omega)]
  unfold ageS
  rw [z_at (by omega)]
  exact expG_lo 10 1 (by omega) (by omega)
theorem WFa_pas {N : Row} (h : WFa N) : ∀ n, cl (N 0) + n < 134217728 → WFa (pasS n N) ∧ cl (pasS n N 0) = cl (N 0) + n ∧ pasS n N 1 = N 1
  | 0, _ => ⟨h, rfl, rfl⟩
  | n + 1, hb => by
    obtain ⟨a, b, c⟩ := WFa_pas h n (by omega)
    rw [pasS_s]
    exact ⟨WFa_tick a (by omega), by rw [tickS_0 a (by omega), cl_nI (by omega)]; omega, by rw [tickS_1 a (by omega)]; exact c⟩
theorem m_passes {M : Mem} (h : WFa (M.1 7 1)) {n : Nat} (hn : n ≤ 1000) (hb : cl (M.1 7 1 0) + n < 134217728) : ∃ M', f_X9_passes (nI n) M = some (pasS n (M.1 7 1) 0, M') ∧ M'.1 7 1 = pasS n (M.1 7 1) ∧ FrN M M' := by
  unfold f_X9_passes
  have main := loopE (fun m (σ : Int32 × Mem) => L_X9_passes_2 (nI n) m σ.1 σ.2) (fun i σ => ∃ M', σ = (nI i, M') ∧ M'.1 7 1 = pasS i (M.1 7 1) ∧ FrN M M') (P := fun q => q.1 = pasS n (M.1 7 1) 0 ∧ q.2.1 7 1 = pasS n (M.1 7 1) ∧ FrN M q.2) n (fun m i σ hi hσ => ?_) (fun m σ hσ => ?_) FU (FU_lt (by omega)) (nI 0, M) ⟨M, rfl, rfl, FrN.rf⟩
  · obtain ⟨b, h1, h2, h3, h4⟩ := main
    exact ⟨b.2, by rw [← h2]; exact h1, h3, h4⟩
  · obtain ⟨M1, rfl, a1, a2⟩ := hσ
    show ∃ s', L_X9_passes_2 (nI n) (m + 1) _ _ = L_X9_passes_2 (nI n) m _ _ ∧ _
    obtain ⟨w1, w2, w3⟩ := WFa_pas h i (by omega)
    obtain ⟨M2, b1, b2, b3⟩ := m_tickOn (M := M1) (by rw [a1]; exact w1) (by rw [a1, w2]; omega)
    refine ⟨(nI (i + 1), M2), ?_, M2, rfl, ?_, a2.tr b3⟩
    · rw [L_X9_passes_2]
      simp (disch := omega) only [↓ite_b2r, ↓ite_nb2r, ↓lit_m1, ↓lit_m2, lit_0, lit_1, lit_2, lit_3, lit_4, lit_5, lit_6, lit_7, lit_8, lit_9, lit_10, lit_11, lit_12, lit_13, lit_14, lit_15, lit_16, lit_17, lit_18, lit_19, lit_20, lit_21, lit_22, lit_23, lit_24, lit_25, lit_26, lit_27, lit_28, lit_29, lit_30, lit_31, lit_32, lit_33, lit_34, lit_35, lit_36, lit_40, lit_41, lit_42, lit_44, lit_48, lit_57, lit_59, lit_62, lit_63, lit_64, lit_82, lit_98, lit_99, lit_100, lit_101, lit_102, lit_103, lit_104, lit_105, lit_106, lit_107, lit_108, lit_109, lit_110, lit_111, lit_112, lit_113, lit_119, lit_120, lit_127, lit_128, lit_149, lit_150, lit_202, lit_240, lit_262, lit_894, lit_900, lit_999, lit_1000, lit_2000, lit_2662, lit_2663, lit_2695, lit_2701, lit_2702, lit_3602, lit_10806, nI_add, pk_mul, cl_nI, inb_nI, nI_leI, nI_ltI, nI_eq, nI_eq_m1, m1_eq_nI, nI_eq_m2, div_nI, rem_nI, Option.bind_some, b2_0, b2_1, isb_b2, if_true_, if_false_, ↓reduceIte, reduceCtorEq, not_true_eq_false, not_false_eq_true, bt_hasBit, ult, Nat.add_zero, false_and, true_and, and_true, and_false, Nat.reduceLeDiff, Nat.reduceEqDiff, Nat.reduceLT, Bool.toNat_true, Bool.toNat_false, decide_true, decide_false, Bool.not_true, Bool.not_false, Bool.false_and, Bool.true_and, Bool.and_true, Bool.and_false, Bool.or_false, Bool.true_or, Bool.or_true, Bool.false_or, Nat.not_le.mpr hi, b1]
    · rw [b2, a1, pasS_s]
  · obtain ⟨M1, rfl, a1, a2⟩ := hσ
    show ∃ b, L_X9_passes_2 (nI n) (m + 1) _ _ = some b ∧ _
    refine ⟨(M1.1 7 1 0, M1), ?_, ?_, a1, a2⟩
    · rw [L_X9_passes_2]
      simp (disch := omega) only [↓ite_b2r, ↓ite_nb2r, ↓lit_m1, ↓lit_m2, lit_0, lit_1, lit_2, lit_3, lit_4, lit_5, lit_6, lit_7, lit_8, lit_9, lit_10, lit_11, lit_12, lit_13, lit_14, lit_15, lit_16, lit_17, lit_18, lit_19, lit_20, lit_21, lit_22, lit_23, lit_24, lit_25, lit_26, lit_27, lit_28, lit_29, lit_30, lit_31, lit_32, lit_33, lit_34, lit_35, lit_36, lit_40, lit_41, lit_42, lit_44, lit_48, lit_57, lit_59, lit_62, lit_63, lit_64, lit_82, lit_98, lit_99, lit_100, lit_101, lit_102, lit_103, lit_104, lit_105, lit_106, lit_107, lit_108, lit_109, lit_110, lit_111, lit_112, lit_113, lit_119, lit_120, lit_127, lit_128, lit_149, lit_150, lit_202, lit_240, lit_262, lit_894, lit_900, lit_999, lit_1000, lit_2000, lit_2662, lit_2663, lit_2695, lit_2701, lit_2702, lit_3602, lit_10806, nI_add, pk_mul, cl_nI, inb_nI, nI_leI, nI_ltI, nI_eq, nI_eq_m1, m1_eq_nI, nI_eq_m2, div_nI, rem_nI, Option.bind_some, b2_0, b2_1, isb_b2, if_true_, if_false_, ↓reduceIte, reduceCtorEq, not_true_eq_false, not_false_eq_true, bt_hasBit, ult, Nat.add_zero, false_and, true_and, and_true, and_false, Nat.reduceLeDiff, Nat.reduceEqDiff, Nat.reduceLT, Bool.toNat_true, Bool.toNat_false, decide_true, decide_false, Bool.not_true, Bool.not_false, Bool.false_and, Bool.true_and, Bool.and_true, Bool.and_false, Bool.or_false, Bool.true_or, Bool.or_true, Bool.false_or, Nat.le_refl]
    · rw [a1]
end KD
