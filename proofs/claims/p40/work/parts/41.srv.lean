/-! ===== serving, requesting ===== -/
def srvF : Nat → Nat → Row → Nat × Row
  | 0, _, N => (0, N)
  | r + 1, k, N => if okS N k = true then ((srvF r k (grS N k)).1 + 1, (srvF r k (grS N k)).2) else srvF r (k + 1) N
def srvS (N : Row) : Nat × Row := srvF (wq N) 0 N
/-- what always holds -/
def WFa (N : Row) : Prop := WF N ∧ WFx N
theorem srvF_le : ∀ r k N, (srvF r k N).1 ≤ r
  | 0, _, _ => Nat.le_refl 0
  | r + 1, k, N => by
    rw [srvF]
    by_cases h : okS N k = true
    · rw [if_pos h]
      have := srvF_le r k (grS N k)
      show (srvF r k (grS N k)).1 + 1 ≤ r + 1
      omega
    · rw [if_neg h]
      have := srvF_le r (k + 1) N
      omega
theorem WFa_srvF : ∀ r k N, WFa N → k + r = wq N → WFa (srvF r k N).2
  | 0, _, _, h, _ => h
  | r + 1, k, N, h, hk => by
    rw [srvF]
    by_cases ho : okS N k = true
    · rw [if_pos ho]
      obtain ⟨a, b, c⟩ := WF_grS h.1 h.2 (k := k) (by omega) ho
      exact WFa_srvF r k (grS N k) ⟨a, b⟩ (by rw [c]; omega)
    · rw [if_neg ho]
      exact WFa_srvF r (k + 1) N h (by omega)
theorem WFa_srv {N : Row} (h : WFa N) : WFa (srvS N).2 := WFa_srvF _ _ _ h (by omega)
theorem c_serve {M : Mem} {g : Nat} {N : Row} (hN : WFa N) (h : RD (M.1 g) N) : ∃ M', f_X1_serve g M = some (nI (srvS N).1, M') ∧ RD (M'.1 g) (srvS N).2 ∧ Fr g M M' := by
  have hq8 := wq_le hN.1.2.2.2.1
  have h12 : M.1 g 12 1 = nI (wq N) := h.2.2.2.2.1.1.trans (wq_eq hN.1.2.2.2.1)
  unfold f_X1_serve
  rw [h12]
  have main := loopE (fun n (σ : Int32 × Int32 × Int32 × Mem) => L_X1_serve_15 g (nI (wq N)) n σ.1 σ.2.1 σ.2.2.1 σ.2.2.2) (fun i σ => ∃ k gr M' R, σ = (nI k, nI gr, nI i, M') ∧ WFa R ∧ RD (M'.1 g) R ∧ Fr g M M' ∧ k + (wq N - i) = wq R ∧ gr ≤ i ∧ (srvS N).1 = gr + (srvF (wq N - i) k R).1 ∧ (srvS N).2 = (srvF (wq N - i) k R).2) (P := fun q => q.1 = nI (srvS N).1 ∧ RD (q.2.1 g) (srvS N).2 ∧ Fr g M q.2) (wq N) (fun n i σ hi hσ => ?_) (fun n σ hσ => ?_) FU (FU_lt (by omega)) (nI 0, nI 0, nI 0, M) ⟨0, 0, M, N, rfl, hN, h, Fr.rf, by omega, by omega, by rw [Nat.zero_add]; rfl, rfl⟩
  · obtain ⟨b, h1, h2, h3, h4⟩ := main
    refine ⟨b.2, ?_, h3, h4⟩
    rw [← h2]
    exact h1
  · obtain ⟨k, gr, M1, R, rfl, hR, hr, hF, hk, hg, e1, e2⟩ := hσ
    show ∃ s', L_X1_serve_15 g _ (n + 1) _ _ _ _ = L_X1_serve_15 g _ n _ _ _ _ ∧ _
    obtain ⟨M2, l1, l2, l3⟩ := c_lookAt (M := M1) (g := g) hR.1 hR.2 hr (k := k) (by omega)
    have er : wq N - i = (wq N - (i + 1)) + 1 := by omega
    rw [er, srvF] at e1 e2
    have hq8R := wq_le hR.1.2.2.2.1
    rw [L_X1_serve_15]
    unfold B_X1_serve_39
    rw [if_neg (show ¬ nI (wq N) ≤ nI i from fun z => by rw [nI_leI (by omega) (by omega)] at z; omega)]
    dsimp only
    rw [l1, Option.bind_some]
    by_cases ho : okS R k = true
    · rw [if_pos ho] at e1 e2 l2
      obtain ⟨a, b, c⟩ := WF_grS hR.1 hR.2 (k := k) (by omega) ho
      have hits : itsN R (wus R k) (wse R k) (wsh R k) < 10 := by
        unfold okS at ho
        rw [Bool.and_eq_true] at ho
        exact (its_spec (Can_its ho.1)).1
      refine ⟨(nI k, nI (gr + 1), nI (i + 1), M2), ?_, k, gr + 1, M2, grS R k, rfl, ⟨a, b⟩, l2, hF.tr l3, by rw [c]; omega, by omega, by rw [e1]; dsimp only; omega, e2⟩
      dsimp only
      rw [if_pos ho, if_neg (show ¬ nI (itsN R (wus R k) (wse R k) (wsh R k)) = -1 from fun z => by
        have z2 : nI (itsN R (wus R k) (wse R k) (wsh R k)) = mI := z
        rw [nI_eq_m1 (by omega)] at z2
        exact z2), nI_1, nI_1]
    · rw [if_neg ho] at e1 e2 l2
      refine ⟨(nI (k + 1), nI gr, nI (i + 1), M2), ?_, k + 1, gr, M2, R, rfl, hR, l2, hF.tr l3, by omega, by omega, e1, e2⟩
      dsimp only
      rw [if_neg ho, if_pos (show mI = -1 from rfl), nI_1, nI_1]
  · obtain ⟨k, gr, M1, R, rfl, hR, hr, hF, hk, hg, e1, e2⟩ := hσ
    show ∃ b, L_X1_serve_15 g _ (n + 1) _ _ _ _ = some b ∧ _
    rw [Nat.sub_self, srvF] at e1 e2
    refine ⟨(nI gr, M1), ?_, ?_, ?_, hF⟩
    · rw [L_X1_serve_15]
      dsimp only
      rw [if_pos (nI_leI (by omega) (by omega) |>.mpr (Nat.le_refl _))]
    · rw [e1]; rfl
    · rw [e2]; exact hr
theorem m_serves {M : Mem} (hN : WFa (M.1 7 1)) : ∃ M', f_X9_serves M = some M' ∧ M'.1 7 1 = (srvS (M.1 7 1)).2 ∧ FrN M M' := by
  have hq8 := wq_le hN.1.2.2.2.1
  unfold f_X9_serves
  refine loopE (fun n (σ : Int32 × Mem) => L_X9_serves_2 n σ.1 σ.2) (fun i σ => ∃ k M', σ = (nI k, M') ∧ WFa (M'.1 7 1) ∧ FrN M M' ∧ k + (wq (M.1 7 1) - i) = wq (M'.1 7 1) ∧ (srvS (M.1 7 1)).2 = (srvF (wq (M.1 7 1) - i) k (M'.1 7 1)).2) (wq (M.1 7 1)) (fun n i σ hi hσ => ?_) (fun n σ hσ => ?_) FU (FU_lt (by omega)) (nI 0, M) ⟨0, M, rfl, hN, FrN.rf, by omega, rfl⟩
  · obtain ⟨k, M1, rfl, hR, hF, hk, e2⟩ := hσ
    show ∃ s', L_X9_serves_2 (n + 1) _ _ = L_X9_serves_2 n _ _ ∧ _
    have hNq := hR.1.2.2.2.1
    have hq8R := wq_le hNq
    have hk2 : k < wq (M1.1 7 1) := by omega
    obtain ⟨f0, l0⟩ := wus_eq hNq hk2
    obtain ⟨f1, l1, u1⟩ := wse_eq hNq hk2
    obtain ⟨f2, l2, p2⟩ := wti_eq hNq hk2
    have f3 := wsh_eq hNq hk2
    have er : wq (M.1 7 1) - i = (wq (M.1 7 1) - (i + 1)) + 1 := by omega
    rw [er, srvF] at e2
    rw [L_X9_serves_2]
    unfold B_X9_serves_97 B_X9_serves_100 f_X9_waits f_X9_wait
    have hcan := m_canGrant (M := M1) hR.1.1 hR.1.2.1 (u := wus (M1.1 7 1) k) (s := wse (M1.1 7 1) k) (wsh (M1.1 7 1) k) l0 l1 u1
    have hblk := m_isBlockedAhead (M := M1) hR.1.1 hNq (j := k) (s := wse (M1.1 7 1) k) (wsh (M1.1 7 1) k) (by omega) l1 u1
    have hs2 : nI (wsh (M1.1 7 1) k).toNat = b2 (wsh (M1.1 7 1) k) := rfl
    have hok : okS (M1.1 7 1) k = (Can (M1.1 7 1) (wus (M1.1 7 1) k) (wse (M1.1 7 1) k) (wsh (M1.1 7 1) k) && !BlkA (M1.1 7 1) k (wse (M1.1 7 1) k) (wsh (M1.1 7 1) k)) := rfl
    cases hC : Can (M1.1 7 1) (wus (M1.1 7 1) k) (wse (M1.1 7 1) k) (wsh (M1.1 7 1) k) with
    | false =>
      rw [hC] at hok hcan
      rw [if_neg (by rw [hok]; simp)] at e2
      refine ⟨(nI (k + 1), M1), ?_, k + 1, M1, rfl, hR, hF, by omega, e2⟩
      simp (disch := omega) only [↓ite_b2r, ↓ite_nb2r, ↓lit_m1, ↓lit_m2, lit_0, lit_1, lit_2, lit_3, lit_4, lit_5, lit_6, lit_7, lit_8, lit_9, lit_10, lit_11, lit_12, lit_13, lit_14, lit_15, lit_16, lit_17, lit_18, lit_19, lit_20, lit_21, lit_22, lit_23, lit_24, lit_25, lit_26, lit_27, lit_28, lit_29, lit_30, lit_31, lit_32, lit_33, lit_34, lit_35, lit_36, lit_40, lit_41, lit_42, lit_44, lit_48, lit_57, lit_59, lit_62, lit_63, lit_64, lit_82, lit_98, lit_99, lit_100, lit_101, lit_102, lit_103, lit_104, lit_105, lit_106, lit_107, lit_108, lit_109, lit_110, lit_111, lit_112, lit_113, lit_119, lit_120, lit_127, lit_128, lit_149, lit_150, lit_202, lit_240, lit_262, lit_894, lit_900, lit_999, lit_1000, lit_2000, lit_2662, lit_2663, lit_2695, lit_2701, lit_2702, lit_3602, lit_10806, nI_add, pk_mul, cl_nI, inb_nI, nI_leI, nI_ltI, nI_eq, nI_eq_m1, m1_eq_nI, nI_eq_m2, div_nI, rem_nI, Option.bind_some, b2_0, b2_1, isb_b2, if_true_, if_false_, ↓reduceIte, reduceCtorEq, not_true_eq_false, not_false_eq_true, bt_hasBit, ult, Nat.add_zero, false_and, true_and, and_true, and_false, Nat.reduceLeDiff, Nat.reduceEqDiff, Nat.reduceLT, Bool.toNat_true, Bool.toNat_false, decide_true, decide_false, Bool.not_true, Bool.not_false, Bool.false_and, Bool.true_and, Bool.and_true, Bool.and_false, Bool.or_false, Bool.true_or, Bool.or_true, Bool.false_or, wq_eq hNq, Nat.not_le.mpr hk2, f0, f1, f2, f3, hs2, hcan]
    | true =>
      rw [hC] at hok hcan
      cases hB : BlkA (M1.1 7 1) k (wse (M1.1 7 1) k) (wsh (M1.1 7 1) k) with
      | true =>
        rw [hB] at hok hblk
        rw [if_neg (by rw [hok]; simp)] at e2
        refine ⟨(nI (k + 1), M1), ?_, k + 1, M1, rfl, hR, hF, by omega, e2⟩
        simp (disch := omega) only [↓ite_b2r, ↓ite_nb2r, ↓lit_m1, ↓lit_m2, lit_0, lit_1, lit_2, lit_3, lit_4, lit_5, lit_6, lit_7, lit_8, lit_9, lit_10, lit_11, lit_12, lit_13, lit_14, lit_15, lit_16, lit_17, lit_18, lit_19, lit_20, lit_21, lit_22, lit_23, lit_24, lit_25, lit_26, lit_27, lit_28, lit_29, lit_30, lit_31, lit_32, lit_33, lit_34, lit_35, lit_36, lit_40, lit_41, lit_42, lit_44, lit_48, lit_57, lit_59, lit_62, lit_63, lit_64, lit_82, lit_98, lit_99, lit_100, lit_101, lit_102, lit_103, lit_104, lit_105, lit_106, lit_107, lit_108, lit_109, lit_110, lit_111, lit_112, lit_113, lit_119, lit_120, lit_127, lit_128, lit_149, lit_150, lit_202, lit_240, lit_262, lit_894, lit_900, lit_999, lit_1000, lit_2000, lit_2662, lit_2663, lit_2695, lit_2701, lit_2702, lit_3602, lit_10806, nI_add, pk_mul, cl_nI, inb_nI, nI_leI, nI_ltI, nI_eq, nI_eq_m1, m1_eq_nI, nI_eq_m2, div_nI, rem_nI, Option.bind_some, b2_0, b2_1, isb_b2, if_true_, if_false_, ↓reduceIte, reduceCtorEq, not_true_eq_false, not_false_eq_true, bt_hasBit, ult, Nat.add_zero, false_and, true_and, and_true, and_false, Nat.reduceLeDiff, Nat.reduceEqDiff, Nat.reduceLT, Bool.toNat_true, Bool.toNat_false, decide_true, decide_false, Bool.not_true, Bool.not_false, Bool.false_and, Bool.true_and, Bool.and_true, Bool.and_false, Bool.or_false, Bool.true_or, Bool.or_true, Bool.false_or, wq_eq hNq, Nat.not_le.mpr hk2, f0, f1, f2, f3, hs2, hcan, hblk]
      | false =>
        rw [hB] at hok hblk
        have ho : okS (M1.1 7 1) k = true := by rw [hok]; rfl
        rw [if_pos ho] at e2
        obtain ⟨a, b, c⟩ := WF_grS hR.1 hR.2 hk2 ho
        have hlv := m_leave (M := M1) hNq hk2
        have hlo : eqR 0 2662 (leaveS (M1.1 7 1) k) (M1.1 7 1) := leaveS_lo
        have hW := WF_leave hR.1 hk2
        have hcc : Cnt (leaveS (M1.1 7 1) k) (wus (M1.1 7 1) k) (wse (M1.1 7 1) k) (wsh (M1.1 7 1) k) < 10 := by
          rw [Cnt_cg (hlo.sub (by omega) (by omega)) (hlo.sub (by omega) (by omega)) hR.1.1 hR.1.2.1]
          exact Can_its hC
        obtain ⟨M2, m1, m2, m3⟩ := m_grants (M := wrs M1 7 1 (leaveS (M1.1 7 1) k)) (u := wus (M1.1 7 1) k) (s := wse (M1.1 7 1) k) (t := wti (M1.1 7 1) k) (e := wsh (M1.1 7 1) k) (by rw [wrs_same]; exact hW.1) (by rw [wrs_same]; exact hW.2.1) l0 l1 (by rw [wrs_same]; exact hcc)
        rw [wrs_same] at m1 m2
        have m2' : M2.1 7 1 = grS (M1.1 7 1) k := m2
        refine ⟨(nI k, M2), ?_, k, M2, rfl, by rw [m2']; exact ⟨a, b⟩, (hF.tr (FrN_wrs _ (by omega) _)).tr m3, by rw [m2', c]; omega, by rw [m2']; exact e2⟩
        simp (disch := omega) only [↓ite_b2r, ↓ite_nb2r, ↓lit_m1, ↓lit_m2, lit_0, lit_1, lit_2, lit_3, lit_4, lit_5, lit_6, lit_7, lit_8, lit_9, lit_10, lit_11, lit_12, lit_13, lit_14, lit_15, lit_16, lit_17, lit_18, lit_19, lit_20, lit_21, lit_22, lit_23, lit_24, lit_25, lit_26, lit_27, lit_28, lit_29, lit_30, lit_31, lit_32, lit_33, lit_34, lit_35, lit_36, lit_40, lit_41, lit_42, lit_44, lit_48, lit_57, lit_59, lit_62, lit_63, lit_64, lit_82, lit_98, lit_99, lit_100, lit_101, lit_102, lit_103, lit_104, lit_105, lit_106, lit_107, lit_108, lit_109, lit_110, lit_111, lit_112, lit_113, lit_119, lit_120, lit_127, lit_128, lit_149, lit_150, lit_202, lit_240, lit_262, lit_894, lit_900, lit_999, lit_1000, lit_2000, lit_2662, lit_2663, lit_2695, lit_2701, lit_2702, lit_3602, lit_10806, nI_add, pk_mul, cl_nI, inb_nI, nI_leI, nI_ltI, nI_eq, nI_eq_m1, m1_eq_nI, nI_eq_m2, div_nI, rem_nI, Option.bind_some, b2_0, b2_1, isb_b2, if_true_, if_false_, ↓reduceIte, reduceCtorEq, not_true_eq_false, not_false_eq_true, bt_hasBit, ult, Nat.add_zero, false_and, true_and, and_true, and_false, Nat.reduceLeDiff, Nat.reduceEqDiff, Nat.reduceLT, Bool.toNat_true, Bool.toNat_false, decide_true, decide_false, Bool.not_true, Bool.not_false, Bool.false_and, Bool.true_and, Bool.and_true, Bool.and_false, Bool.or_false, Bool.true_or, Bool.or_true, Bool.false_or, wq_eq hNq, Nat.not_le.mpr hk2, f0, f1, f2, f3, hs2, hcan, hblk, hlv, m1]
  · obtain ⟨k, M1, rfl, hR, hF, hk, e2⟩ := hσ
    show ∃ b, L_X9_serves_2 (n + 1) _ _ = some b ∧ _
    rw [Nat.sub_self, srvF] at e2
    have hNq := hR.1.2.2.2.1
    have hq8R := wq_le hNq
    refine ⟨M1, ?_, e2.symm, hF⟩
    rw [L_X9_serves_2]
    unfold f_X9_waits
    simp (disch := omega) only [↓ite_b2r, ↓ite_nb2r, ↓lit_m1, ↓lit_m2, lit_0, lit_1, lit_2, lit_3, lit_4, lit_5, lit_6, lit_7, lit_8, lit_9, lit_10, lit_11, lit_12, lit_13, lit_14, lit_15, lit_16, lit_17, lit_18, lit_19, lit_20, lit_21, lit_22, lit_23, lit_24, lit_25, lit_26, lit_27, lit_28, lit_29, lit_30, lit_31, lit_32, lit_33, lit_34, lit_35, lit_36, lit_40, lit_41, lit_42, lit_44, lit_48, lit_57, lit_59, lit_62, lit_63, lit_64, lit_82, lit_98, lit_99, lit_100, lit_101, lit_102, lit_103, lit_104, lit_105, lit_106, lit_107, lit_108, lit_109, lit_110, lit_111, lit_112, lit_113, lit_119, lit_120, lit_127, lit_128, lit_149, lit_150, lit_202, lit_240, lit_262, lit_894, lit_900, lit_999, lit_1000, lit_2000, lit_2662, lit_2663, lit_2695, lit_2701, lit_2702, lit_3602, lit_10806, nI_add, pk_mul, cl_nI, inb_nI, nI_leI, nI_ltI, nI_eq, nI_eq_m1, m1_eq_nI, nI_eq_m2, div_nI, rem_nI, Option.bind_some, b2_0, b2_1, isb_b2, if_true_, if_false_, ↓reduceIte, reduceCtorEq, not_true_eq_false, not_false_eq_true, bt_hasBit, ult, Nat.add_zero, false_and, true_and, and_true, and_false, Nat.reduceLeDiff, Nat.reduceEqDiff, Nat.reduceLT, Bool.toNat_true, Bool.toNat_false, decide_true, decide_false, Bool.not_true, Bool.not_false, Bool.false_and, Bool.true_and, Bool.and_true, Bool.and_false, Bool.or_false, Bool.true_or, Bool.or_true, Bool.false_or, wq_eq hNq, show wq (M1.1 7 1) ≤ k by omega]
/-- a request -/
def reqOk (N : Row) (u s : Nat) (e : Bool) : Bool := Can N u s e && !BlkA N (wq N) s e
def reqS (N : Row) (u s t : Nat) (e : Bool) : Int32 × Row := if reqOk N u s e = true then (nI (itsN N u s e), grantS N u s t e) else (mI, joinS N u s t e)
theorem WFa_req {N : Row} (h : WFa N) {u s t : Nat} {e : Bool} (hw : wq N < 8) (hu : u < 6) (hs : s < 20) (hus : us N s = true) (ht : t ≤ 1000) (ht0 : 0 < t) (hnew : ∀ k, k < wq N → wus N k ≠ u) : WFa (reqS N u s t e).2 := by
  unfold reqS
  by_cases ho : reqOk N u s e = true
  · rw [if_pos ho]
    unfold reqOk at ho
    rw [Bool.and_eq_true] at ho
    exact ⟨WF_grant h.1 hu hs hus ht ht0 (Can_its ho.1), WFx_grant h.1 h.2 hs hus ho.1⟩
  · rw [if_neg ho]
    exact ⟨WF_join h.1 hw hu hs hus ht ht0 hnew, WFx_join h.1 h.2⟩
theorem c_requestNow {M : Mem} {g : Nat} {N : Row} (hN : WFa N) (h : RD (M.1 g) N) {u s t : Nat} (e : Bool) (hw : wq N < 8) (hu : u < 6) (hs : s < 20) (hus : us N s = true) (ht : t ≤ 1000) (ht0 : 0 < t) (hnew : ∀ k, k < wq N → wus N k ≠ u) : ∃ M', f_X1_requestNow g (nI u) (nI s) (nI t) (b2 e) M = some ((reqS N u s t e).1, M') ∧ RD (M'.1 g) (reqS N u s t e).2 ∧ Fr g M M' := by
  obtain ⟨M1, j1, j2, j3⟩ := c_join (M := M) (g := g) (u := u) (s := s) (t := t) (e := e) hN.1 h hw
  have hW : WF (joinS N u s t e) := WF_join hN.1 hw hu hs hus ht ht0 hnew
  have hq := joinS_wq (N := N) (u := u) (s := s) (t := t) (e := e) hw
  obtain ⟨M2, l1, l2, l3⟩ := c_lookAt (M := M1) (g := g) hW (WFx_join hN.1 hN.2) j2 (k := wq N) (by omega)
  have hlo : eqR 0 2662 (joinS N u s t e) N := joinS_lo
  have h0 : eqR 0 62 (joinS N u s t e) N := hlo.sub (by omega) (by omega)
  have h1 : eqR 202 262 (joinS N u s t e) N := hlo.sub (by omega) (by omega)
  have w0 : wus (joinS N u s t e) (wq N) = u := by unfold wus; rw [joinS_0, cl_nI (by omega)]
  have w1 : wse (joinS N u s t e) (wq N) = s := by unfold wse; rw [joinS_1, cl_nI (by omega)]
  have w2 : wti (joinS N u s t e) (wq N) = t := by unfold wti; rw [joinS_2, cl_nI (by omega)]
  have w3 : wsh (joinS N u s t e) (wq N) = e := by
    unfold wsh
    rw [joinS_3]
    cases e <;> simp (disch := omega) only [↓ite_b2r, ↓ite_nb2r, ↓lit_m1, ↓lit_m2, lit_0, lit_1, lit_2, lit_3, lit_4, lit_5, lit_6, lit_7, lit_8, lit_9, lit_10, lit_11, lit_12, lit_13, lit_14, lit_15, lit_16, lit_17, lit_18, lit_19, lit_20, lit_21, lit_22, lit_23, lit_24, lit_25, lit_26, lit_27, lit_28, lit_29, lit_30, lit_31, lit_32, lit_33, lit_34, lit_35, lit_36, lit_40, lit_41, lit_42, lit_44, lit_48, lit_57, lit_59, lit_62, lit_63, lit_64, lit_82, lit_98, lit_99, lit_100, lit_101, lit_102, lit_103, lit_104, lit_105, lit_106, lit_107, lit_108, lit_109, lit_110, lit_111, lit_112, lit_113, lit_119, lit_120, lit_127, lit_128, lit_149, lit_150, lit_202, lit_240, lit_262, lit_894, lit_900, lit_999, lit_1000, lit_2000, lit_2662, lit_2663, lit_2695, lit_2701, lit_2702, lit_3602, lit_10806, nI_add, pk_mul, cl_nI, inb_nI, nI_leI, nI_ltI, nI_eq, nI_eq_m1, m1_eq_nI, nI_eq_m2, div_nI, rem_nI, Option.bind_some, b2_0, b2_1, isb_b2, if_true_, if_false_, ↓reduceIte, reduceCtorEq, not_true_eq_false, not_false_eq_true, bt_hasBit, ult, Nat.add_zero, false_and, true_and, and_true, and_false, Nat.reduceLeDiff, Nat.reduceEqDiff, Nat.reduceLT, Bool.toNat_true, Bool.toNat_false, decide_true, decide_false, Bool.not_true, Bool.not_false, Bool.false_and, Bool.true_and, Bool.and_true, Bool.and_false, Bool.or_false, Bool.true_or, Bool.or_true, Bool.false_or]
  have hok : okS (joinS N u s t e) (wq N) = reqOk N u s e := by
    unfold okS reqOk
    rw [w0, w1, w3, Can_cg h0 h1 hN.1.1 hN.1.2.1 hs hus]
    congr 2
    refine anyN_c fun j hj => ?_
    obtain ⟨a, b, c⟩ := wse_eq hN.1.2.2.2.1 hj
    exact Blk_cg h0 hN.1.1 (joinS_old hj (by omega)) (joinS_old hj (by omega)) b c hs hus
  rw [hok] at l1 l2
  refine ⟨M2, ?_, ?_, j3.tr l3⟩
  · unfold f_X1_requestNow
    rw [j1, Option.bind_some]
    dsimp only
    rw [l1, Option.bind_some]
    dsimp only
    unfold reqS
    rw [w0, w1, w3, its_cg h0 h1 hN.1.1 hN.1.2.1]
    by_cases ho : reqOk N u s e = true
    · rw [if_pos ho, if_pos ho]
    · rw [if_neg ho, if_neg ho]
  · unfold reqS
    by_cases ho : reqOk N u s e = true
    · rw [if_pos ho] at l2
      rw [if_pos ho]
      show RD (M2.1 g) (grantS N u s t e)
      unfold grS at l2
      rw [w0, w1, w2, w3] at l2
      unfold reqOk at ho
      rw [Bool.and_eq_true] at ho
      have hc := Can_its ho.1
      have hi := (its_spec hc).1
      -- the row is that of the grant but for what lies behind the line
      have el : eqR 0 2662 (leaveS (joinS N u s t e) (wq N)) N := leaveS_lo.tr hlo
      have hi2 : itsN (leaveS (joinS N u s t e) (wq N)) u s e < 10 := by rw [its_cg (el.sub (by omega) (by omega)) (el.sub (by omega) (by omega)) hN.1.1 hN.1.2.1]; exact hi
      have eg : eqR 0 2662 (grantS N u s t e) (grantS (leaveS (joinS N u s t e) (wq N)) u s t e) := (grantS_cg el hN.1.1 hN.1.2.1).sy
      have hWl := WF_leave hW (k := wq N) (by omega)
      have hcl : Cnt (leaveS (joinS N u s t e) (wq N)) u s e < 10 := by rw [Cnt_cg (el.sub (by omega) (by omega)) (el.sub (by omega) (by omega)) hN.1.1 hN.1.2.1]; exact hc
      have husl : us (leaveS (joinS N u s t e) (wq N)) s = true := by rw [us_cg (el.sub (by omega) (by omega)) hs]; exact hus
      have hWg : WF (grantS (leaveS (joinS N u s t e) (wq N)) u s t e) := WF_grant hWl hu hs husl ht ht0 hcl
      have ev : ∀ x, 2662 ≤ x → grantS (leaveS (joinS N u s t e) (wq N)) u s t e x = if x = 2662 then nI (wq N) else joinS N u s t e x := fun x hx => by
        rw [gr_hi hi2 hx]
        unfold leaveS
        rw [hq, show wq N + 1 - 1 = wq N by omega, shF_0]
        by_cases hx2 : x = 2662
        · rw [hx2, upd_same, if_pos rfl]
        · rw [upd_other hx2, if_neg hx2]
      have e2662 : N 2662 = nI (wq N) := wq_eq hN.1.2.2.2.1
      have ewq : wq (grantS (leaveS (joinS N u s t e) (wq N)) u s t e) = wq N := by
        show cl (grantS (leaveS (joinS N u s t e) (wq N)) u s t e 2662) = _
        rw [ev _ (by omega), if_pos rfl, cl_nI (by omega)]
      obtain ⟨hq1, hq2⟩ := l2.2.2.2.2.1
      refine RD_q eg (fun x h3 h4 => ?_) hWg (fun j _ _ => rfl) ⟨?_, fun k hk => ?_⟩ l2
      · rw [gr_hi hi (by omega), ev x (by omega), if_neg (by omega), joinS_hi hw x h3 h4]
      · rw [hq1, ev _ (by omega), if_pos rfl, gr_hi hi (by omega), e2662]
      · have hk2 : k < wq N := by
          have : wq (grantS N u s t e) = wq N := by unfold wq; rw [gr_hi hi (by omega)]
          rw [this] at hk
          exact hk
        have := hq2 k (by rw [ewq]; exact hk2)
        rw [ev _ (by omega), if_neg (by omega), ev _ (by omega), if_neg (by omega), ev _ (by omega), if_neg (by omega), ev _ (by omega), if_neg (by omega)] at this
        rw [gr_hi hi (by omega), gr_hi hi (by omega), gr_hi hi (by omega), gr_hi hi (by omega)]
        have f0 := joinS_old (N := N) (u := u) (s := s) (t := t) (e := e) (w := 0) hk2 (by omega)
        rw [Nat.add_zero] at f0
        rw [f0, joinS_old hk2 (by omega), joinS_old hk2 (by omega), joinS_old hk2 (by omega)] at this
        exact this
    · rw [if_neg ho] at l2
      rw [if_neg ho]
      exact l2
theorem m_requests {M : Mem} (hN : WFa (M.1 7 1)) {u s t : Nat} (e : Bool) (hw : wq (M.1 7 1) < 8) (hu : u < 6) (hs : s < 20) (hus : us (M.1 7 1) s = true) : ∃ M', f_X9_requests (nI u) (nI s) (nI t) (b2 e) M = some ((reqS (M.1 7 1) u s t e).1, M') ∧ M'.1 7 1 = (reqS (M.1 7 1) u s t e).2 ∧ FrN M M' := by
  have hNq := hN.1.2.2.2.1
  have hcan := m_canGrant (M := M) hN.1.1 hN.1.2.1 (u := u) (s := s) e hu hs hus
  have hblk := m_isBlockedAhead (M := M) hN.1.1 hNq (j := wq (M.1 7 1)) (s := s) e (Nat.le_refl _) hs hus
  have hok : reqOk (M.1 7 1) u s e = (Can (M.1 7 1) u s e && !BlkA (M.1 7 1) (wq (M.1 7 1)) s e) := rfl
  have no : B_X9_requests_35 (nI u) (nI s) (nI t) (b2 e) M = some (mI, wrs M 7 1 (joinS (M.1 7 1) u s t e)) := by
    unfold B_X9_requests_35 f_X9_waits f_X9_wait
    simp (disch := omega) only [↓ite_b2r, ↓ite_nb2r, ↓lit_m1, ↓lit_m2, lit_0, lit_1, lit_2, lit_3, lit_4, lit_5, lit_6, lit_7, lit_8, lit_9, lit_10, lit_11, lit_12, lit_13, lit_14, lit_15, lit_16, lit_17, lit_18, lit_19, lit_20, lit_21, lit_22, lit_23, lit_24, lit_25, lit_26, lit_27, lit_28, lit_29, lit_30, lit_31, lit_32, lit_33, lit_34, lit_35, lit_36, lit_40, lit_41, lit_42, lit_44, lit_48, lit_57, lit_59, lit_62, lit_63, lit_64, lit_82, lit_98, lit_99, lit_100, lit_101, lit_102, lit_103, lit_104, lit_105, lit_106, lit_107, lit_108, lit_109, lit_110, lit_111, lit_112, lit_113, lit_119, lit_120, lit_127, lit_128, lit_149, lit_150, lit_202, lit_240, lit_262, lit_894, lit_900, lit_999, lit_1000, lit_2000, lit_2662, lit_2663, lit_2695, lit_2701, lit_2702, lit_3602, lit_10806, nI_add, pk_mul, cl_nI, inb_nI, nI_leI, nI_ltI, nI_eq, nI_eq_m1, m1_eq_nI, nI_eq_m2, div_nI, rem_nI, Option.bind_some, b2_0, b2_1, isb_b2, if_true_, if_false_, ↓reduceIte, reduceCtorEq, not_true_eq_false, not_false_eq_true, bt_hasBit, ult, Nat.add_zero, false_and, true_and, and_true, and_false, Nat.reduceLeDiff, Nat.reduceEqDiff, Nat.reduceLT, Bool.toNat_true, Bool.toNat_false, decide_true, decide_false, Bool.not_true, Bool.not_false, Bool.false_and, Bool.true_and, Bool.and_true, Bool.and_false, Bool.or_false, Bool.true_or, Bool.or_true, Bool.false_or, wq_eq hNq]
    have e2 : wr M 7 1 (2663 + 4 * wq (M.1 7 1)) (nI u) = wrs M 7 1 (upd (M.1 7 1) (2663 + 4 * wq (M.1 7 1)) (nI u)) := rfl
    rw [e2]
    simp (disch := omega) only [↓ite_b2r, ↓ite_nb2r, ↓lit_m1, ↓lit_m2, lit_0, lit_1, lit_2, lit_3, lit_4, lit_5, lit_6, lit_7, lit_8, lit_9, lit_10, lit_11, lit_12, lit_13, lit_14, lit_15, lit_16, lit_17, lit_18, lit_19, lit_20, lit_21, lit_22, lit_23, lit_24, lit_25, lit_26, lit_27, lit_28, lit_29, lit_30, lit_31, lit_32, lit_33, lit_34, lit_35, lit_36, lit_40, lit_41, lit_42, lit_44, lit_48, lit_57, lit_59, lit_62, lit_63, lit_64, lit_82, lit_98, lit_99, lit_100, lit_101, lit_102, lit_103, lit_104, lit_105, lit_106, lit_107, lit_108, lit_109, lit_110, lit_111, lit_112, lit_113, lit_119, lit_120, lit_127, lit_128, lit_149, lit_150, lit_202, lit_240, lit_262, lit_894, lit_900, lit_999, lit_1000, lit_2000, lit_2662, lit_2663, lit_2695, lit_2701, lit_2702, lit_3602, lit_10806, nI_add, pk_mul, cl_nI, inb_nI, nI_leI, nI_ltI, nI_eq, nI_eq_m1, m1_eq_nI, nI_eq_m2, div_nI, rem_nI, Option.bind_some, b2_0, b2_1, isb_b2, if_true_, if_false_, ↓reduceIte, reduceCtorEq, not_true_eq_false, not_false_eq_true, bt_hasBit, ult, Nat.add_zero, false_and, true_and, and_true, and_false, Nat.reduceLeDiff, Nat.reduceEqDiff, Nat.reduceLT, Bool.toNat_true, Bool.toNat_false, decide_true, decide_false, Bool.not_true, Bool.not_false, Bool.false_and, Bool.true_and, Bool.and_true, Bool.and_false, Bool.or_false, Bool.true_or, Bool.or_true, Bool.false_or, wr_wrs, wrs_same]
    rw [upd_other (by omega), upd_other (by omega), upd_other (by omega), upd_other (by omega), wq_eq hNq, nI_add]
    rfl
  unfold f_X9_requests reqS
  cases hC : Can (M.1 7 1) u s e with
  | false =>
    rw [hC] at hok hcan
    rw [if_neg (by rw [hok]; simp), hcan]
    refine ⟨_, ?_, wrs_same _ _ _ _, FrN_wrs _ (by omega) _⟩
    simp (disch := omega) only [↓ite_b2r, ↓ite_nb2r, ↓lit_m1, ↓lit_m2, lit_0, lit_1, lit_2, lit_3, lit_4, lit_5, lit_6, lit_7, lit_8, lit_9, lit_10, lit_11, lit_12, lit_13, lit_14, lit_15, lit_16, lit_17, lit_18, lit_19, lit_20, lit_21, lit_22, lit_23, lit_24, lit_25, lit_26, lit_27, lit_28, lit_29, lit_30, lit_31, lit_32, lit_33, lit_34, lit_35, lit_36, lit_40, lit_41, lit_42, lit_44, lit_48, lit_57, lit_59, lit_62, lit_63, lit_64, lit_82, lit_98, lit_99, lit_100, lit_101, lit_102, lit_103, lit_104, lit_105, lit_106, lit_107, lit_108, lit_109, lit_110, lit_111, lit_112, lit_113, lit_119, lit_120, lit_127, lit_128, lit_149, lit_150, lit_202, lit_240, lit_262, lit_894, lit_900, lit_999, lit_1000, lit_2000, lit_2662, lit_2663, lit_2695, lit_2701, lit_2702, lit_3602, lit_10806, nI_add, pk_mul, cl_nI, inb_nI, nI_leI, nI_ltI, nI_eq, nI_eq_m1, m1_eq_nI, nI_eq_m2, div_nI, rem_nI, Option.bind_some, b2_0, b2_1, isb_b2, if_true_, if_false_, ↓reduceIte, reduceCtorEq, not_true_eq_false, not_false_eq_true, bt_hasBit, ult, Nat.add_zero, false_and, true_and, and_true, and_false, Nat.reduceLeDiff, Nat.reduceEqDiff, Nat.reduceLT, Bool.toNat_true, Bool.toNat_false, decide_true, decide_false, Bool.not_true, Bool.not_false, Bool.false_and, Bool.true_and, Bool.and_true, Bool.and_false, Bool.or_false, Bool.true_or, Bool.or_true, Bool.false_or]
    exact no
  | true =>
    rw [hC] at hok hcan
    cases hB : BlkA (M.1 7 1) (wq (M.1 7 1)) s e with
    | true =>
      rw [hB] at hok hblk
      rw [if_neg (by rw [hok]; simp), hcan]
      refine ⟨_, ?_, wrs_same _ _ _ _, FrN_wrs _ (by omega) _⟩
      unfold f_X9_waits
      simp (disch := omega) only [↓ite_b2r, ↓ite_nb2r, ↓lit_m1, ↓lit_m2, lit_0, lit_1, lit_2, lit_3, lit_4, lit_5, lit_6, lit_7, lit_8, lit_9, lit_10, lit_11, lit_12, lit_13, lit_14, lit_15, lit_16, lit_17, lit_18, lit_19, lit_20, lit_21, lit_22, lit_23, lit_24, lit_25, lit_26, lit_27, lit_28, lit_29, lit_30, lit_31, lit_32, lit_33, lit_34, lit_35, lit_36, lit_40, lit_41, lit_42, lit_44, lit_48, lit_57, lit_59, lit_62, lit_63, lit_64, lit_82, lit_98, lit_99, lit_100, lit_101, lit_102, lit_103, lit_104, lit_105, lit_106, lit_107, lit_108, lit_109, lit_110, lit_111, lit_112, lit_113, lit_119, lit_120, lit_127, lit_128, lit_149, lit_150, lit_202, lit_240, lit_262, lit_894, lit_900, lit_999, lit_1000, lit_2000, lit_2662, lit_2663, lit_2695, lit_2701, lit_2702, lit_3602, lit_10806, nI_add, pk_mul, cl_nI, inb_nI, nI_leI, nI_ltI, nI_eq, nI_eq_m1, m1_eq_nI, nI_eq_m2, div_nI, rem_nI, Option.bind_some, b2_0, b2_1, isb_b2, if_true_, if_false_, ↓reduceIte, reduceCtorEq, not_true_eq_false, not_false_eq_true, bt_hasBit, ult, Nat.add_zero, false_and, true_and, and_true, and_false, Nat.reduceLeDiff, Nat.reduceEqDiff, Nat.reduceLT, Bool.toNat_true, Bool.toNat_false, decide_true, decide_false, Bool.not_true, Bool.not_false, Bool.false_and, Bool.true_and, Bool.and_true, Bool.and_false, Bool.or_false, Bool.true_or, Bool.or_true, Bool.false_or, wq_eq hNq, hblk]
      exact no
    | false =>
      rw [hB] at hok hblk
      have ho : reqOk (M.1 7 1) u s e = true := by rw [hok]; rfl
      rw [if_pos ho, hcan]
      obtain ⟨M2, m1, m2, m3⟩ := m_grants (M := M) (u := u) (s := s) (t := t) (e := e) hN.1.1 hN.1.2.1 hu hs (Can_its hC)
      refine ⟨M2, ?_, m2, m3⟩
      unfold f_X9_waits
      simp (disch := omega) only [↓ite_b2r, ↓ite_nb2r, ↓lit_m1, ↓lit_m2, lit_0, lit_1, lit_2, lit_3, lit_4, lit_5, lit_6, lit_7, lit_8, lit_9, lit_10, lit_11, lit_12, lit_13, lit_14, lit_15, lit_16, lit_17, lit_18, lit_19, lit_20, lit_21, lit_22, lit_23, lit_24, lit_25, lit_26, lit_27, lit_28, lit_29, lit_30, lit_31, lit_32, lit_33, lit_34, lit_35, lit_36, lit_40, lit_41, lit_42, lit_44, lit_48, lit_57, lit_59, lit_62, lit_63, lit_64, lit_82, lit_98, lit_99, lit_100, lit_101, lit_102, lit_103, lit_104, lit_105, lit_106, lit_107, lit_108, lit_109, lit_110, lit_111, lit_112, lit_113, lit_119, lit_120, lit_127, lit_128, lit_149, lit_150, lit_202, lit_240, lit_262, lit_894, lit_900, lit_999, lit_1000, lit_2000, lit_2662, lit_2663, lit_2695, lit_2701, lit_2702, lit_3602, lit_10806, nI_add, pk_mul, cl_nI, inb_nI, nI_leI, nI_ltI, nI_eq, nI_eq_m1, m1_eq_nI, nI_eq_m2, div_nI, rem_nI, Option.bind_some, b2_0, b2_1, isb_b2, if_true_, if_false_, ↓reduceIte, reduceCtorEq, not_true_eq_false, not_false_eq_true, bt_hasBit, ult, Nat.add_zero, false_and, true_and, and_true, and_false, Nat.reduceLeDiff, Nat.reduceEqDiff, Nat.reduceLT, Bool.toNat_true, Bool.toNat_false, decide_true, decide_false, Bool.not_true, Bool.not_false, Bool.false_and, Bool.true_and, Bool.and_true, Bool.and_false, Bool.or_false, Bool.true_or, Bool.or_true, Bool.false_or, wq_eq hNq, hblk, m1]
