/-! ===== the text is carried out, on both sides ===== -/
def carR (R : Mem) : Option (Int32 × Mem) := (f_X9_reads R).bind fun q1 => if q1.1 = 0 then some ((((-10) : Int32) - (q1.2.1 7 0 10)), q1.2) else (f_X9_laysAside q1.2).bind fun q3 => L_X9_carryOut_26 FU (0 : Int32) q3
def CarOut (k : Nat) (M R M1 M2 : Mem) : Prop := M1.1 7 = M.1 7 ∧ M1.2 = M.2 ∧ (∀ g, g ≠ 7 → M2.1 g = R.1 g) ∧ M2.2 = R.2 ∧ M2.1 7 0 4 = R.1 7 0 4 ∧ (M1.1 6 3 1 = M.1 6 3 1 ∧ M1.1 6 4 = M.1 6 4 ∧ M2.1 7 0 6 = M.1 7 0 6 ∧ M2.1 7 4 = M.1 7 4) ∧ ∃ N' n P, TB (k + 1) N' ∧ RD (M1.1 0) N' ∧ eqR 0 3602 (M2.1 7 1) N' ∧ n ≤ 4 ∧ (∀ i, i < n → TB (k + 1) (P i)) ∧ SVC M1 n P ∧ SVM M2 n P
section CJ
variable {k : Nat} {M R : Mem}
theorem car_fail (h : SR k M) (hR : ∀ j, j ≠ 0 → R.1 7 j = M.1 7 j) (hR0 : ∀ i, i ≠ 4 → R.1 7 0 i = M.1 7 0 i) {M' R' : Mem} {p : Nat} (hf : RF R R' p) (hc : CF M M') : CarOut k M R M' R' := by
  obtain ⟨hT, hr, x, n, P, a, b, c, d⟩ := h
  obtain ⟨f1, f2, f3, f4, f5⟩ := hf
  obtain ⟨c1, c2, c3, c4⟩ := hc
  refine ⟨c3 7 (by omega), c4, f4, f5, f3 4 (by omega) (by omega), ⟨c1, c2 4 (by omega) (by omega) (by omega), ?_, ?_⟩, M.1 7 1, n, P, hT.up (by omega), by rw [c3 0 (by omega)]; exact hr, ?_, a, fun i hi => (b i hi).up (by omega), SVC_cg c (c2 1 (by omega) (by omega) (by omega)) (c2 2 (by omega) (by omega) (by omega)) (fun g h1 h2 => c3 g (by omega)), ?_⟩
  · rw [f3 6 (by omega) (by omega), hR0 6 (by omega)]
  · rw [f2 4 (by omega) (by omega) (by omega), hR 4 (by omega)]
  · rw [f2 1 (by omega) (by omega) (by omega), hR 1 (by omega)]; exact eqR.rf
  · exact SVM_cg d (by rw [f3 3 (by omega) (by omega), hR0 3 (by omega)]) (by rw [f2 2 (by omega) (by omega) (by omega), hR 2 (by omega)])
theorem SVM_P {M : Mem} {n : Nat} {P P' : Nat → Row} (h : SVM M n P) (hP : ∀ i, i < n → eqR 0 3602 (P i) (P' i)) : SVM M n P' := ⟨h.1, fun i hi x hx => (h.2 i hi x hx).trans (hP i hi x (by omega) hx)⟩
theorem pushP_eq {n : Nat} {P : Nat → Row} {Y N : Row} (h : eqR 0 3602 Y N) (i : Nat) : eqR 0 3602 (pushP n P Y i) (pushP n P N i) := by
  unfold pushP
  by_cases h4 : n = 4
  · rw [if_pos h4, if_pos h4]
    by_cases h3 : i = 3
    · rw [if_pos h3, if_pos h3]; exact h
    · rw [if_neg h3, if_neg h3]; exact eqR.rf
  · rw [if_neg h4, if_neg h4]
    by_cases h3 : i = n
    · rw [if_pos h3, if_pos h3]; exact h
    · rw [if_neg h3, if_neg h3]; exact eqR.rf
theorem TB_run {N N' : Row} {o : Nat} (ho : o ≤ 30) (hT : TB k N) (hW : WFa N') (h0 : cl (N' 0) ≤ cl (N 0) + 1000 * o) (h1 : N' 1 = N 1) : TB (k + 1) N' := by
  refine ⟨hW, ?_, by rw [h1]; have := hT.2.2; omega⟩
  have h2 := hT.2.1
  have h3 : 1000 * o ≤ 1000 * 30 := Nat.mul_le_mul_left _ ho
  omega
theorem carry_joint (h : SR k M) (hk : k < 512) (hR : ∀ j, j ≠ 0 → R.1 7 j = M.1 7 j) (hR0 : ∀ i, i ≠ 4 → R.1 7 0 i = M.1 7 0 i) : ∃ b M1 M2, f_X8_carryOut M = some (b, M1) ∧ carR R = some (b, M2) ∧ CarOut k M R M1 M2 := by
  have hSR := h
  obtain ⟨hT, hr, ⟨len, l1, l2, l3, l4⟩, n, P, a, b, c, d⟩ := h
  have hN := hT.1
  have hTE : TE M R len (M.1 7 4) := ⟨l1, l2, fun i hi => (l4 i hi).1, by rw [hR0 6 (by omega)]; exact l3, fun i hi => by rw [hR 4 (by omega)]⟩
  unfold f_X8_carryOut carR
  rcases parse_both hTE with ⟨M', R', o, L, V, Lr, Vr, p1, p2, p3, p4, p5, p6⟩ | ⟨M', R', p, p1, p2, p3, p4, p5⟩
  · obtain ⟨Ma, m1, m2, m3⟩ := c_copyFrom M' (g := 1) (g2 := 0) (by omega)
    obtain ⟨q1, q2, q3, q4, q5, q6, q7, q8, q9, q10⟩ := p4
    obtain ⟨⟨r1, r2, r3, r4, r5⟩, r6, r7, r8⟩ := p3
    have hra : RD (Ma.1 1) (M.1 7 1) := RD_eq m2 hN.1.2.1 hN.1.2.2.2.1 hN.1.2.2.2.2.2 (by rw [q9 0 (by omega)]; exact hr)
    have h71 : R'.1 7 1 = M.1 7 1 := by rw [r2 1 (by omega) (by omega) (by omega), hR 1 (by omega)]
    have hla := m_laysAside R'
    rw [h71] at hla
    generalize hQa : wrs R' 7 3 (mixF (M.1 7 1) (R'.1 7 3) 3602) = Qa at hla
    have z3 : Qa.1 7 3 = mixF (M.1 7 1) (R'.1 7 3) 3602 := by rw [← hQa, wrs_same]
    have zj : ∀ j, j ≠ 3 → Qa.1 7 j = R'.1 7 j := fun j hj => by rw [← hQa, wrs_other _ _ _ _ (by omega)]
    have zg : ∀ g, g ≠ 7 → Qa.1 g = R.1 g := fun g hg => by rw [← hQa, wrs_ng _ _ _ hg]; exact r4 g hg
    have z2 : Qa.2 = R.2 := by rw [← hQa, wrs_2]; exact r5
    have g6 : Ma.1 6 = M'.1 6 := m3.1 6 (by omega)
    have hbd : cl (M.1 7 1 0) + 1000 * o < 134217728 := by
      have h2 := hT.2.1
      have h3 : 1000 * o ≤ 1000 * 30 := Nat.mul_le_mul_left _ p6
      omega
    have eC : (f_X3_parse M).bind (fun q1 => if q1.1 = ((-1) : Int32) then (f_X1_copyFrom 1 0 q1.2).bind fun q3 => L_X8_carryOut_31 FU (0 : Int32) q3 else some ((((-10) : Int32) - q1.1), q1.2)) = L_X8_carryOut_31 FU (nI 0) Ma := by
      rw [p1, Option.bind_some, if_pos (show (mI, M').1 = -1 from rfl), m1, Option.bind_some]
      exact congrArg (fun z => L_X8_carryOut_31 FU z Ma) (show (0 : Int32) = nI 0 from rfl)
    have eR : (f_X9_reads R).bind (fun q1 => if q1.1 = 0 then some ((((-10) : Int32) - (q1.2.1 7 0 10)), q1.2) else (f_X9_laysAside q1.2).bind fun q3 => L_X9_carryOut_26 FU (0 : Int32) q3) = L_X9_carryOut_26 FU (nI 0) Qa := by
      rw [p2, Option.bind_some, if_neg (show ¬ (nI 1, R').1 = 0 from (show ¬ nI 1 = 0 by decide)), hla, Option.bind_some]
      exact congrArg (fun z => L_X9_carryOut_26 FU z Qa) (show (0 : Int32) = nI 0 from rfl)
    rw [eC, eR]
    have hFU : o < FU := FU_lt (by omega)
    rcases run_all p6 p5 o 0 Ma Qa (M.1 7 1) (Nat.zero_add o) (by rw [g6]; exact q5) (by rw [g6]; exact q6) (by rw [g6]; exact q1) (by rw [zj 8 (by omega)]; exact r7) (by rw [zj 9 (by omega)]; exact r8) (by rw [zj 0 (by omega)]; exact r6) hN hra (by rw [zj 1 (by omega)]; exact h71) hbd with ⟨q, Mc', Mr', b1, b2', b3, b4⟩ | ⟨Mc', Mr', N', b1, b2', b3, b4, b5, b6, b7, b8, b9⟩
    · have G : ∀ g, g ≠ 1 → g ≠ 6 → Mc'.1 g = M.1 g := fun g h1 h6 => by rw [b2'.1 g h1, m3.1 g h1, q9 g h6]
      have G6 : ∀ j, j ≠ 3 → j ≠ 5 → j ≠ 6 → Mc'.1 6 j = M.1 6 j := fun j h3 h5 h6 => by rw [b2'.1 6 (by omega), m3.1 6 (by omega)]; exact q8 j h3 h5 h6
      have G2 : Mc'.2 = M.2 := by rw [b2'.2, m3.2, q10]
      refine ⟨_, Mc', wrs Mr' 7 1 (mixF (Mr'.1 7 3) (Mr'.1 7 1) 3602), b1 FU hFU, ?_, G 7 (by omega) (by omega), G2, fun g hg => ?_, ?_, ?_, ⟨?_, G6 4 (by omega) (by omega) (by omega), ?_, ?_⟩, M.1 7 1, n, P, hT.up (by omega), by rw [G 0 (by omega) (by omega)]; exact hr, ?_, a, fun i hi => (b i hi).up (by omega), SVC_cg c (G6 1 (by omega) (by omega) (by omega)) (G6 2 (by omega) (by omega) (by omega)) (fun g h1 h2 => G g (by omega) (by omega)), ?_⟩
      · rw [b3 FU hFU, m_takesBack, Option.bind_some]
      · rw [wrs_ng _ _ _ hg, b4.1 g hg, zg g hg]
      · rw [wrs_2, b4.2.1, z2]
      · rw [wrs_other _ _ _ _ (by omega), b4.2.2 0 (by omega) (by omega) (by omega) (by omega), zj 0 (by omega), r3 4 (by omega) (by omega)]
      · rw [b2'.1 6 (by omega), m3.1 6 (by omega)]; exact q7
      · rw [wrs_other _ _ _ _ (by omega), b4.2.2 0 (by omega) (by omega) (by omega) (by omega), zj 0 (by omega), r3 6 (by omega) (by omega), hR0 6 (by omega)]
      · rw [wrs_other _ _ _ _ (by omega), b4.2.2 4 (by omega) (by omega) (by omega) (by omega), zj 4 (by omega), r2 4 (by omega) (by omega) (by omega), hR 4 (by omega)]
      · rw [wrs_same, b4.2.2 3 (by omega) (by omega) (by omega) (by omega), z3]
        exact fun k _ hk => by rw [mixF_lt hk, mixF_lt hk]
      · refine SVM_cg d ?_ ?_
        · rw [wrs_other _ _ _ _ (by omega), b4.2.2 0 (by omega) (by omega) (by omega) (by omega), zj 0 (by omega), r3 3 (by omega) (by omega), hR0 3 (by omega)]
        · rw [wrs_other _ _ _ _ (by omega), b4.2.2 2 (by omega) (by omega) (by omega) (by omega), zj 2 (by omega), r2 2 (by omega) (by omega) (by omega), hR 2 (by omega)]
    · have G : ∀ g, g ≠ 1 → g ≠ 6 → Mc'.1 g = M.1 g := fun g h1 h6 => by rw [b2'.1 g h1, m3.1 g h1, q9 g h6]
      have G6 : ∀ j, j ≠ 3 → j ≠ 5 → j ≠ 6 → Mc'.1 6 j = M.1 6 j := fun j h3 h5 h6 => by rw [b2'.1 6 (by omega), m3.1 6 (by omega)]; exact q8 j h3 h5 h6
      have G63 : ∀ i, Mc'.1 6 3 i = M'.1 6 3 i := fun i => by rw [b2'.1 6 (by omega), m3.1 6 (by omega)]
      have G2 : Mc'.2 = M.2 := by rw [b2'.2, m3.2, q10]
      have cc : SVC Mc' n P := SVC_cg c (G6 1 (by omega) (by omega) (by omega)) (G6 2 (by omega) (by omega) (by omega)) (fun g h1 h2 => G g (by omega) (by omega))
      obtain ⟨M3, u1, u2, u3⟩ := c_push cc hN (by rw [G 0 (by omega) (by omega)]; exact hr)
      obtain ⟨M4, v1, v2, v3⟩ := c_copyFrom M3 (g := 0) (g2 := 1) (by omega)
      have r4' : RD (M4.1 0) N' := RD_eq v2 b7.1.2.1 b7.1.2.2.2.1 b7.1.2.2.2.2.2 (by rw [u3.2.1]; exact b6)
      have m63 : ∀ i, M4.1 6 3 i = M'.1 6 3 i := fun i => by rw [v3.1 6 (by omega), u3.2.2.2.2 3 (by omega) (by omega)]; exact G63 i
      have hOk : okC Mc' = some (nI o, M4) := by
        unfold okC
        rw [u1, Option.bind_some, v1, Option.bind_some, m63 4, q1]
      have y3 : Mr'.1 7 3 = mixF (M.1 7 1) (R'.1 7 3) 3602 := by rw [b4.2.2 3 (by omega) (by omega) (by omega) (by omega), z3]
      have yj : ∀ j, j ≠ 1 → j ≠ 3 → j ≠ 5 → j ≠ 6 → j ≠ 7 → Mr'.1 7 j = R'.1 7 j := fun j h1 h3 h5 h6 h7 => by rw [b4.2.2 j h1 h5 h6 h7, zj j h3]
      have hsw := m_swap Mr'
      generalize hMx : wrs (wrs Mr' 7 1 (mixF (Mr'.1 7 3) (Mr'.1 7 1) 3602)) 7 3 (mixF (Mr'.1 7 1) (Mr'.1 7 3) 3602) = Mx at hsw
      have x1 : Mx.1 7 1 = mixF (Mr'.1 7 3) (Mr'.1 7 1) 3602 := by rw [← hMx, wrs_other _ _ _ _ (by omega), wrs_same]
      have x3 : Mx.1 7 3 = mixF (Mr'.1 7 1) (Mr'.1 7 3) 3602 := by rw [← hMx, wrs_same]
      have xj : ∀ j, j ≠ 1 → j ≠ 3 → Mx.1 7 j = Mr'.1 7 j := fun j h1 h3 => by rw [← hMx, wrs_other _ _ _ _ (by omega), wrs_other _ _ _ _ (by omega)]
      have xg : ∀ g, g ≠ 7 → Mx.1 g = Mr'.1 g := fun g hg => by rw [← hMx, wrs_ng _ _ _ hg, wrs_ng _ _ _ hg]
      have x2 : Mx.2 = Mr'.2 := by rw [← hMx, wrs_2, wrs_2]
      have dx : SVM Mx n P := SVM_cg d (by rw [xj 0 (by omega) (by omega), yj 0 (by omega) (by omega) (by omega) (by omega) (by omega), r3 3 (by omega) (by omega), hR0 3 (by omega)]) (by rw [xj 2 (by omega) (by omega), yj 2 (by omega) (by omega) (by omega) (by omega) (by omega), r2 2 (by omega) (by omega) (by omega), hR 2 (by omega)])
      obtain ⟨M5, s1, s2, s3⟩ := m_saves dx a
      have hY : eqR 0 3602 (Mx.1 7 1) (M.1 7 1) := fun k _ hk => by rw [x1, mixF_lt hk, y3, mixF_lt hk]
      have e11 : M5.1 7 0 11 = nI o := by rw [s3.2.2.2 11 (by omega), xj 0 (by omega) (by omega), yj 0 (by omega) (by omega) (by omega) (by omega) (by omega)]; exact r6
      obtain ⟨t1, t2⟩ := TB_push a b hT
      refine ⟨nI o, M4, wrs M5 7 1 (mixF (M5.1 7 3) (M5.1 7 1) 3602), (b1 FU hFU).trans hOk, ?_, ?_, ?_, fun g hg => ?_, ?_, ?_, ⟨?_, ?_, ?_, ?_⟩, N', pushN n, pushP n P (M.1 7 1), TB_run p6 hT b7 b8 b9, r4', ?_, t1, t2, ?_, ?_⟩
      · rw [b3 FU hFU, hsw, s1, Option.bind_some, m_takesBack, Option.bind_some, wrs_other _ _ _ _ (by omega), e11]
      · rw [v3.1 7 (by omega), u3.2.2.1, G 7 (by omega) (by omega)]
      · rw [v3.2, u3.2.2.2.1, G2]
      · rw [wrs_ng _ _ _ hg, s3.1 g hg, xg g hg, b4.1 g hg, zg g hg]
      · rw [wrs_2, s3.2.1, x2, b4.2.1, z2]
      · rw [wrs_other _ _ _ _ (by omega), s3.2.2.2 4 (by omega), xj 0 (by omega) (by omega), yj 0 (by omega) (by omega) (by omega) (by omega) (by omega), r3 4 (by omega) (by omega)]
      · rw [m63 1, q7]
      · rw [v3.1 6 (by omega), u3.2.2.2.2 4 (by omega) (by omega), G6 4 (by omega) (by omega) (by omega)]
      · rw [wrs_other _ _ _ _ (by omega), s3.2.2.2 6 (by omega), xj 0 (by omega) (by omega), yj 0 (by omega) (by omega) (by omega) (by omega) (by omega), r3 6 (by omega) (by omega), hR0 6 (by omega)]
      · rw [wrs_other _ _ _ _ (by omega), s3.2.2.1 4 (by omega) (by omega), xj 4 (by omega) (by omega), yj 4 (by omega) (by omega) (by omega) (by omega) (by omega), r2 4 (by omega) (by omega) (by omega), hR 4 (by omega)]
      · rw [wrs_same]
        exact fun k _ hk => by rw [mixF_lt hk, s3.2.2.1 3 (by omega) (by omega), x3, mixF_lt hk, b5]
      · exact SVC_cg u2 (by rw [v3.1 6 (by omega)]) (by rw [v3.1 6 (by omega)]) (fun g h1 h2 => v3.1 g (by omega))
      · exact SVM_cg (SVM_P s2 (fun i _ => pushP_eq hY i)) (by rw [wrs_other _ _ _ _ (by omega)]) (by rw [wrs_other _ _ _ _ (by omega)])
  · have hne : ¬ (nI p, M').1 = (-1 : Int32) := fun z => by
      have z2 : nI p = mI := z
      rw [nI_eq_m1 (by omega)] at z2
      exact z2
    refine ⟨_, M', R', by rw [p1, Option.bind_some, if_neg hne], ?_, car_fail hSR hR hR0 p3 p4⟩
    rw [p2, Option.bind_some, if_pos (show (nI 0, R').1 = 0 from rfl), p3.1]
end CJ
