/-! ===== what would be: ifBroken, grantedAt ===== -/
theorem srvF_wq : ∀ r k N, WFa N → k + r = wq N → (srvF r k N).1 + wq (srvF r k N).2 = wq N
  | 0, _, _, _, _ => by rw [srvF]; exact Nat.zero_add _
  | r + 1, k, N, h, hk => by
    rw [srvF]
    by_cases ho : okS N k = true
    · rw [if_pos ho]
      obtain ⟨a, b, c⟩ := WF_grS h.1 h.2 (k := k) (by omega) ho
      have := srvF_wq r k (grS N k) ⟨a, b⟩ (by rw [c]; omega)
      show (srvF r k (grS N k)).1 + 1 + wq (srvF r k (grS N k)).2 = wq N
      omega
    · rw [if_neg ho]
      exact srvF_wq r (k + 1) N h (by omega)
theorem wq_lose {N : Row} {c : Nat} (hc : c < 10) : wq (loseS N c) = wq N := by
  unfold loseS closeS wq
  by_cases h : sh N c = true
  · rw [if_pos h, setC_o (by omega)]
  · rw [if_neg h, setC_o (by omega)]
theorem WFa_wF {x : Int32} : ∀ n N, WFa N → cl (N 0) + n < 134217728 → WFa (wF x n N)
  | 0, _, h, _ => h
  | n + 1, N, h, hb => by
    rw [wF]
    by_cases hs : stp x N = true
    · rw [if_pos hs]; exact h
    · rw [if_neg hs]
      exact WFa_wF n _ (WFa_tick h (by omega)) (by rw [tickS_0 h (by omega), cl_nI (by omega)]; omega)
section WI
variable {k : Nat} {M : Mem}
theorem m_granted42 {M : Mem} {u : Nat} (hu : u < 6) {n : Nat} (hn : n ≤ 2000) {N : Row} (h1 : M.1 7 1 = N) (hN : WFa N) (hb : cl (N 0) + n < 134217728) : ∃ M2, L_X9_grantedAt_42 (nI u) FU (nI n) M = B_X9_grantedAt_65 (nI u) M2 ∧ M2.1 7 1 = wF (nI u) n N ∧ FrN M M2 := by
  have hum : (nI u = mI) = False := nI_eq_m1 (by omega)
  refine loopI (fun m (σ : Int32 × Mem) => L_X9_grantedAt_42 (nI u) m σ.1 σ.2) (fun i σ => ∃ M1, σ = (nI (n - i), M1) ∧ WFa (M1.1 7 1) ∧ cl (M1.1 7 1 0) + (n - i) < 134217728 ∧ wF (nI u) (n - i) (M1.1 7 1) = wF (nI u) n N ∧ FrN M M1) (fun o => ∃ M2, o = B_X9_grantedAt_65 (nI u) M2 ∧ M2.1 7 1 = wF (nI u) n N ∧ FrN M M2) n (fun m i σ hi hσ => ?_) (fun m σ hσ => ?_) FU (FU_lt (by omega)) (nI n, M) ⟨M, rfl, by rw [h1]; exact hN, by rw [h1]; exact hb, by rw [h1]; rfl, FrN.rf⟩
  · obtain ⟨M1, rfl, a1, a2, a3, a4⟩ := hσ
    obtain ⟨d, hd⟩ : ∃ d, n - i = d + 1 := ⟨n - i - 1, by omega⟩
    have hne : n - (i + 1) = d := by omega
    rw [hd] at a2 a3 ⊢
    rw [hne]
    rw [wF] at a3
    have hpl := m_placeOf (M := M1) a1.1.2.2.2.1 (nI u)
    have hst : stp (nI u) (M1.1 7 1) = decide (pl (M1.1 7 1) (nI u) = mI) := by
      unfold stp
      rw [decide_eq_false (by rw [hum]; exact id), Bool.not_false, Bool.true_and]
    rw [hst] at a3
    show (∃ M2, L_X9_grantedAt_42 (nI u) (m + 1) _ _ = _ ∧ _) ∨ ∃ s', L_X9_grantedAt_42 (nI u) (m + 1) _ _ = L_X9_grantedAt_42 (nI u) m _ _ ∧ _
    rw [L_X9_grantedAt_42, if_neg (show ¬ nI (d + 1) ≤ 0 from nI_nle (by omega) (by omega)), hpl, Option.bind_some]
    by_cases hp : pl (M1.1 7 1) (nI u) = mI
    · rw [if_pos (decide_eq_true hp)] at a3
      exact Or.inl ⟨M1, by rw [hp]; exact if_pos rfl, a3, a4⟩
    · rw [if_neg (by rw [decide_eq_true_eq]; exact hp)] at a3
      obtain ⟨M2, e1, e2, e3⟩ := m_tickOn a1 (by omega)
      have hs1 : nI (d + 1) + (-1 : Int32) = nI d := by
        rw [show nI (d + 1) + (-1 : Int32) = nI (d + 1) - 1 from (Int32.sub_eq_add_neg _ _).symm]
        exact (pk_sub (b := 1) (by omega)).trans (by rw [Nat.add_sub_cancel])
      refine Or.inr ⟨(nI d, M2), ?_, M2, rfl, by rw [e2]; exact WFa_tick a1 (by omega), ?_, by rw [e2]; exact a3, a4.tr e3⟩
      · rw [if_neg (show ¬ pl (M1.1 7 1) (nI u) = -1 from hp), e1, Option.bind_some, hs1]
      · rw [e2, tickS_0 a1 (by omega), cl_nI (by omega)]; omega
  · obtain ⟨M1, rfl, a1, a2, a3, a4⟩ := hσ
    rw [Nat.sub_self] at a3 ⊢
    refine ⟨M1, ?_, a3, a4⟩
    show L_X9_grantedAt_42 (nI u) (m + 1) _ _ = _
    rw [L_X9_grantedAt_42]
    dsimp only
    rw [if_pos (show nI 0 ≤ 0 by decide)]
end WI
