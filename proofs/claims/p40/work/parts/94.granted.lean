/-! ===== who waits is granted at the tick that was told; as many by a break as were told ===== -/
section GR
variable {N : Row} {S : List Row} {T : List Nat} {M : Mem}
theorem pasS_t (n : Nat) (N : Row) : pasS n (tickS N) = pasS (n + 1) N := by
  unfold pasS
  conv => rhs; rw [wF, stp_m]
  rfl
theorem wF_split (x : Int32) : ∀ n N, ∃ m, m ≤ n ∧ wF x n N = pasS m N ∧ (∀ i, i < m → stp x (pasS i N) = false) ∧ (m = n ∨ stp x (pasS m N) = true)
  | 0, N => ⟨0, Nat.le_refl _, rfl, fun i hi => absurd hi (Nat.not_lt_zero _), Or.inl rfl⟩
  | n + 1, N => by
    cases hs : stp x N with
    | true => exact ⟨0, Nat.zero_le _, by rw [wF, hs]; rfl, fun i hi => absurd hi (Nat.not_lt_zero _), Or.inr hs⟩
    | false =>
      obtain ⟨m, a, b, c, d⟩ := wF_split x n (tickS N)
      refine ⟨m + 1, by omega, ?_, fun i hi => ?_, ?_⟩
      · rw [wF, hs, if_neg (by decide), b, pasS_t]
      · cases i with
        | zero => exact hs
        | succ i => rw [← pasS_t]; exact c i (by omega)
      · rcases d with d | d
        · exact Or.inl (by omega)
        · rw [pasS_t] at d
          exact Or.inr d
theorem stp_u {u : Nat} (hu : u < 6) (N : Row) : stp (nI u) N = decide (pl N (nI u) = mI) := by
  unfold stp
  rw [decide_eq_false (show ¬ nI u = mI by rw [nI_eq_m1 (by omega)]; exact id)]
  rfl
theorem pl_wus (hN : WFa N) {k : Nat} (hk : k < wq N) : pl N (nI (wus N k)) ≠ mI := fun h =>
  (plF_m1 (wq_le hN.1.2.2.2.1)).mp h k hk (wus_eq hN.1.2.2.2.1 hk).1
theorem pas_0 (hN : WFa N) {n : Nat} (hb : cl (N 0) + n < 134217728) : pasS n N 0 = nI (cl (N 0) + n) := by
  obtain ⟨a, b, -⟩ := WFa_pas hN n hb
  rw [← b]
  exact (N0_within a).1
/-- one that waits -/
theorem p_waiting (hN : WFa N) (hb : cl (N 0) + 5000 < 134217728) (h : De N S T M) (k10 : Int32 → Int32 → Mem → Option (Int32 × Mem)) (x1 : Int64) {k : Nat} (hk : k < wq N) : ∃ M' S', B_L_isGranted_51 k10 x1 (nI k) (nI (wus N k)) (N 0) 1 M = k10 1 (nI (k + 1)) M' ∧ De N S' T M' := by
  have hu6 := (wus_eq hN.1.2.2.2.1 hk).2
  have hpl := pl_wus hN hk
  have hUin : inR (nI (wus N k)) 6 = true := by rw [inR_nI (by omega) (by omega), decide_eq_true hu6]
  obtain ⟨M1, a1, h1⟩ := e_grantedAt hN (by omega) h (nI (wus N k))
  have t0 := (N0_within hN).1
  obtain ⟨m, m1, m2, m3, m4⟩ := wF_split (nI (wus N k)) 2000 N
  generalize hu : wus N k = u at *
  have eg : aGra N (nI u) = if pl (pasS m N) (nI u) = mI then pasS m N 0 else mI := by
    unfold aGra
    rw [hUin, if_pos rfl, if_neg hpl, m2]
  have e157 : ∀ M', B_L_isGranted_157 k10 x1 1 (nI k) M' = k10 1 (nI (k + 1)) M' := fun M' => by unfold B_L_isGranted_157; rw [nI_s1]
  unfold B_L_isGranted_51
  rw [a1, Option.bind_some]
  dsimp only
  rw [if_neg (show ¬ (1 : Int32) = 0 by decide), eg]
  by_cases hp : pl (pasS m N) (nI u) = mI
  · have hm0 : m ≠ 0 := fun z => by rw [z] at hp; exact hpl hp
    have eits := pas_0 hN (n := m) (by omega)
    generalize ht : cl (N 0) = t at *
    have hsub : nI (t + m) - N 0 = nI m := by rw [t0, pk_sub (by omega), show t + m - t = m by omega]
    rw [if_pos hp, eits, if_neg (show ¬ nI (t + m) < 0 from nI_pos (by omega)), hsub]
    by_cases hm1 : 1000 < m
    · exact ⟨M1, S, by rw [if_pos (show (1000 : Int32) < nI m from by show nI 1000 < nI m; rw [nI_ltI (by omega) (by omega)]; exact hm1), e157], h1⟩
    · rw [if_neg (show ¬ (1000 : Int32) < nI m from by show ¬ nI 1000 < nI m; rw [nI_ltI (by omega) (by omega)]; exact hm1), if_neg (show ¬ nI (t + m) ≤ N 0 by rw [t0, nI_leI (by omega) (by omega)]; omega), show nI m - (1 : Int32) = nI (m - 1) from pk_sub (b := 1) (by omega), show nI (t + m) - (1 : Int32) = nI (t + m - 1) from pk_sub (b := 1) (by omega)]
      obtain ⟨M2, b1, h2⟩ := e_pass (n := m - 1) hN h1 (by omega) (by omega)
      have h2 : De (pasS (m - 1) N) (N :: S.take 3) T M2 := h2
      obtain ⟨w1, w2, -⟩ := WFa_pas hN (m - 1) (by omega)
      have em1 : pasS (m - 1) N 0 = nI (t + m - 1) := by rw [pas_0 hN (by omega), ht, show t + (m - 1) = t + m - 1 by omega]
      obtain ⟨M3, c1, h3⟩ := e_grantedAt w1 (by omega) h2 (nI u)
      have hst := m3 (m - 1) (by omega)
      rw [stp_u hu6, decide_eq_false_iff_not] at hst
      have hnext : tickS (pasS (m - 1) N) = pasS m N := by rw [← pasS_s, show m - 1 + 1 = m by omega]
      have ewf : wF (nI u) 2000 (pasS (m - 1) N) = pasS m N := by
        rw [show (2000 : Nat) = 1998 + 1 + 1 from rfl, wF, stp_u hu6, decide_eq_false hst, if_neg (by decide), hnext, wF, stp_u hu6, decide_eq_true hp, if_pos rfl]
      have eg2 : aGra (pasS (m - 1) N) (nI u) = nI (t + m) := by
        unfold aGra
        rw [hUin, if_pos rfl, if_neg hst, ewf, if_pos hp, eits]
      obtain ⟨M4, d1, h4⟩ := e_pass (n := 1) w1 h3 (by omega) (by omega)
      have e1p : pasS 1 (pasS (m - 1) N) = pasS m N := hnext
      rw [e1p] at d1 h4
      have h4 : De (pasS m N) (pasS (m - 1) N :: N :: S.take 2) T M4 := by
        have := h4
        rw [List.take_succ_cons, List.take_succ_cons, List.take_take] at this
        exact this
      obtain ⟨z1, z2, -⟩ := WFa_pas hN m (by omega)
      obtain ⟨M5, f1, h5⟩ := e_grantedAt z1 (by omega) h4 (nI u)
      have eg3 : aGra (pasS m N) (nI u) = -52 := by
        unfold aGra
        rw [hUin, if_pos rfl, if_pos hp]
      obtain ⟨M6, g1, h6⟩ := e_undo h5
      obtain ⟨M7, i1, h7⟩ := e_undo h6
      have hlS : (S.take 2).length ≤ 2 := by rw [List.length_take]; omega
      refine ⟨M7, S.take 2, ?_, h7⟩
      rw [b1, em1, Option.bind_some]
      dsimp only
      rw [if_pos rfl, c1, eg2, Option.bind_some]
      dsimp only
      rw [if_pos rfl, show f_L_pass 1 M3 = _ from d1, eits, Option.bind_some]
      dsimp only
      rw [if_pos rfl, f1, eg3, Option.bind_some]
      dsimp only
      rw [if_pos rfl, g1, Option.bind_some]
      dsimp only
      rw [if_neg (show ¬ nI (N :: S.take 2).length < 0 from nI_pos (by rw [List.length_cons]; omega)), i1, Option.bind_some]
      dsimp only
      rw [if_neg (show ¬ nI (S.take 2).length < 0 from nI_pos (by omega))]
      unfold B_L_isGranted_156
      exact e157 M7
  · exact ⟨M1, S, by rw [if_neg hp, if_pos (show mI < 0 by decide), e157], h1⟩
/-- one check-out -/
theorem p_broken (hN : WFa N) (h : De N S T M) (x1 : Int64) {c : Nat} (hc : c < 10) (n : Nat) : ∃ M' S', L_L_isGranted_166 x1 (n + 1) 1 (nI c) M = L_L_isGranted_166 x1 n 1 (nI (c + 1)) M' ∧ De N S' T M' := by
  obtain ⟨M1, a1, h1⟩ := e_ifBroken hN h (nI c)
  have e236 : ∀ M', B_L_isGranted_236 (L_L_isGranted_166 x1 n) x1 1 (nI c) M' = L_L_isGranted_166 x1 n 1 (nI (c + 1)) M' := fun M' => by unfold B_L_isGranted_236; rw [nI_s1]
  rw [L_L_isGranted_166, if_neg (show ¬ (10 : Int32) ≤ nI c from fun z => by have z2 : nI 10 ≤ nI c := z; rw [nI_leI (by omega) (by omega)] at z2; omega), if_neg (show ¬ (1 : Int32) = 0 by decide), a1, Option.bind_some]
  dsimp only
  rw [e_checkOut hN h1, Option.bind_some]
  dsimp only
  by_cases hh : hel N c = true
  · have hk := hel_ck hh
    have hd1 : hd N c = true := by unfold hel at hh; rw [Bool.and_eq_true] at hh; exact hh.2
    obtain ⟨M2, b1, h2⟩ := e_breakUp hN h1 hc hk hd1
    have h2 : De (brkS N c) (N :: S.take 3) T M2 := h2
    have hW : WFa (brkS N c) := WFa_srv (WFa_lose hN hc)
    obtain ⟨M3, c1, h3⟩ := e_undo h2
    have hlS : (S.take 3).length ≤ 3 := by rw [List.length_take]; omega
    have hwq := srvF_wq (wq (loseS N c)) 0 (loseS N c) (WFa_lose hN hc) (by omega)
    have hwq : (srvS (loseS N c)).1 + wq (brkS N c) = wq N := by
      rw [wq_lose hc] at hwq
      unfold brkS srvS
      rw [wq_lose hc]
      exact hwq
    have hq8 := wq_le hN.1.2.2.2.1
    have eib : aIfB N (nI c) = nI (srvS (loseS N c)).1 := by
      unfold aIfB
      rw [isC_nI hc, hk, if_pos rfl, cl_nI (by omega), hh, if_pos rfl]
    refine ⟨M3, S.take 3, ?_, h3⟩
    rw [if_pos (by rw [aChk_3h hN hc]; exact hh), b1, Option.bind_some]
    dsimp only
    rw [usr_eq hN.1.2.1 hc, if_neg (show ¬ nI (usr N c) < 0 from nI_pos (by have := usr_lt hN.1.2.1 hc; omega)), e_waiting hW h2, e_waiting hN h1, eib, if_pos (by rw [pk_sub (by omega)]; congr 1; omega), c1, Option.bind_some]
    dsimp only
    rw [if_neg (show ¬ nI (S.take 3).length < 0 from nI_pos (by omega))]
    unfold B_L_isGranted_235
    exact e236 M3
  · refine ⟨M1, S, ?_, h1⟩
    rw [if_neg (by rw [aChk_3h hN hc]; exact hh), e236]
theorem p_granted (hN : WFa N) (hb : cl (N 0) + 5000 < 134217728) (h : De N S T M) : ∃ M' S', f_L_isGranted M = some (1, M') ∧ De N S' T M' := by
  obtain ⟨v, hv⟩ := p_print hN (by omega)
  obtain ⟨M1, a1, h1⟩ := hv S T M h
  have hq8 := wq_le hN.1.2.2.2.1
  -- the check-outs
  have k2 : ∀ d c, c + d = 10 → ∀ S M, De N S T M → ∃ M' S', L_L_isGranted_166 v (d + 1) 1 (nI c) M = some (1, M') ∧ De N S' T M' := by
    intro d
    induction d with
    | zero =>
      intro c hc S M h
      have : c = 10 := by omega
      subst this
      obtain ⟨M1, a1, h1⟩ := hv S T M h
      refine ⟨M1, _, ?_, h1⟩
      rw [L_L_isGranted_166, if_pos (show (10 : Int32) ≤ nI 10 from Int32.le_refl _)]
      unfold B_L_isGranted_242
      rw [if_neg (show ¬ (1 : Int32) = 0 by decide), a1, Option.bind_some]
      dsimp only
      rw [if_pos (lcv_0.mpr rfl)]
    | succ d ih =>
      intro c hc S M h
      obtain ⟨M1, S1, a1, h1⟩ := p_broken hN h v (c := c) (by omega) (d + 1)
      obtain ⟨M2, S2, a2, h2⟩ := ih (c + 1) (by omega) S1 M1 h1
      exact ⟨M2, S2, by rw [a1]; exact a2, h2⟩
  -- those that wait
  have k1 : ∀ d k, k + d = wq N → ∀ n, d < n → ∀ S M, De N S T M → ∃ M' S', L_L_isGranted_10 v n 1 (nI k) M = some (1, M') ∧ De N S' T M' := by
    intro d
    induction d with
    | zero =>
      intro k hk n hn S M h
      obtain ⟨n, rfl⟩ : ∃ m, n = m + 1 := ⟨n - 1, by omega⟩
      have : k = wq N := by omega
      subst this
      obtain ⟨M1, S1, a1, h1⟩ := k2 10 0 (by omega) S M h
      refine ⟨M1, S1, ?_, h1⟩
      rw [L_L_isGranted_10, e_waiting hN h, if_pos (Int32.le_refl _)]
      unfold B_L_isGranted_163
      exact a1
    | succ d ih =>
      intro k hk n hn S M h
      obtain ⟨n, rfl⟩ : ∃ m, n = m + 1 := ⟨n - 1, by omega⟩
      have hkq : k < wq N := by omega
      obtain ⟨w1, w2⟩ := wus_eq hN.1.2.2.2.1 hkq
      have ew : aWai N (nI k) 0 = nI (wus N k) := by
        unfold aWai
        rw [inR_nI (by omega) (by omega), decide_eq_true hkq, if_pos rfl, show inR 0 4 = true by decide, if_pos rfl, cl_nI (by omega), show cl 0 = 0 from rfl]
        exact w1
      obtain ⟨M1, b1, h1⟩ := e_pass (n := 0) hN h (by omega) (by omega)
      have h1 : De N (N :: S.take 3) T M1 := h1
      obtain ⟨M2, b2', h2⟩ := e_undo h1
      have hlS : (S.take 3).length ≤ 3 := by rw [List.length_take]; omega
      obtain ⟨M3, S3, c1, h3⟩ := p_waiting hN hb h2 (L_L_isGranted_10 v n) v hkq
      obtain ⟨M4, S4, d1, h4⟩ := ih (k + 1) (by omega) n (by omega) S3 M3 h3
      refine ⟨M4, S4, ?_, h4⟩
      rw [L_L_isGranted_10, e_waiting hN h, if_neg (show ¬ nI (wq N) ≤ nI k by rw [nI_leI (by omega) (by omega)]; omega), if_neg (show ¬ (1 : Int32) = 0 by decide), e_waitingAt hN h, ew, Option.bind_some]
      dsimp only
      rw [show f_L_pass 0 M = _ from b1, Option.bind_some]
      dsimp only
      rw [b2', Option.bind_some]
      dsimp only
      rw [if_neg (show ¬ nI (S.take 3).length < 0 from nI_pos (by omega))]
      exact c1.trans d1
  obtain ⟨M2, S2, a2, h2⟩ := k1 (wq N) 0 (by omega) 10 (by omega) _ M1 h1
  refine ⟨M2, S2, ?_, h2⟩
  unfold f_L_isGranted
  rw [a1, Option.bind_some]
  exact a2
end GR
