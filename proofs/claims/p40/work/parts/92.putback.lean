/-! ===== put back to a tick: as it was then ===== -/
section PB
variable {N : Row} {S : List Row} {T : List Nat} {M : Mem}
theorem nI_ge0 {n : Nat} (h : n < 2147483648) : (0 : Int32) ≤ nI n := by
  show nI 0 ≤ nI n
  rw [nI_leI (by omega) h]
  omega
theorem aLin_v {s l : Nat} (hs : s < 20) (hu : us N s = true) (hl : l < 6) : aLin N (nI s) (nI l) = lin N (6 * s + l) := by
  unfold aLin isL
  rw [isS_nI hs, hu, inR_nI (by omega) (by omega), decide_eq_true hl, if_pos (show (true && true) = true from rfl), cl_nI (by omega), cl_nI (by omega), lin_c]
theorem p_putBack (hN : WFa N) (h : De N S T M) {a : Nat} (ha : a < 20) : ∃ M' S', f_L_isPutBack (nI a) 0 M = some (1, M') ∧ De N S' T M' := by
  have hl : hn N < 151 := hN.1.2.2.2.2.2.1.2
  unfold f_L_isPutBack
  rw [e_section hN h, Option.bind_some]
  dsimp only
  cases hu : us N a with
  | false =>
    have e0 : aSec N (nI a) 0 = -53 := by unfold aSec; rw [isS_nI ha, hu]; rfl
    have ec : cdRev N (nI a) 0 = 1 := by unfold cdRev; rw [isS_nI ha, hu]; rfl
    have er := e_revert_no hN h (nI a) 0 (by rw [ec]; decide)
    rw [ec] at er
    refine ⟨M, S, ?_, h⟩
    rw [e0, if_neg (show ¬ (-1 : Int32) ≤ -53 by decide), er, Option.bind_some, if_pos (show cdA 1 = -53 from rfl)]
  | true =>
    have hge : (-1 : Int32) ≤ N (22 + a) := by
      by_cases h0 : a = 0
      · subst h0
        rw [show N (22 + 0) = mI from hN.1.1.2.2.1]
        decide
      · obtain ⟨e9, p1, -⟩ := hN.1.1.2.2.2.1 a (by omega) ha hu
        rw [e9]
        exact Int32.le_trans (show (-1 : Int32) ≤ 0 by decide) (nI_ge0 (by omega))
    obtain ⟨M1, a1, h1⟩ := e_lineAt hN h (nI a) 2 0
    have hN0 := N0_within hN
    have ew : aWas N (nI a) 2 0 = wasK N 0 (6 * a + 2) (lin N (6 * a + 2)) 0 (hn N) := by
      unfold aWas isL
      rw [isS_nI ha, hu, show inR 2 6 = true by decide, show inR 0 (cl (N 0) + 1) = true from by rw [show (0 : Int32) = nI 0 from rfl, inR_nI (by omega) (by omega), decide_eq_true (by omega)], if_pos (show (true && true) = true from rfl), if_pos rfl, cl_nI (by omega), show cl 2 = 2 from rfl, lin_c]
    rw [aSec_0 ha hu, if_pos hge, a1, Option.bind_some]
    dsimp only
    rw [e_entries hN h1]
    by_cases hH : Hel N a = true
    · have ec : cdRev N (nI a) 0 = 3 := by
        unfold cdRev
        rw [isS_nI ha, hu, show inR 0 (cl (N 0) + 1) = true from by rw [show (0 : Int32) = nI 0 from rfl, inR_nI (by omega) (by omega), decide_eq_true (by omega)], cl_nI (by omega), hH]
        rfl
      have er := e_revert_no hN h1 (nI a) 0 (by rw [ec]; decide)
      rw [ec] at er
      refine ⟨M1, S, ?_, h1⟩
      rw [er, Option.bind_some]
      dsimp only
      rw [if_neg (show ¬ (0 : Int32) ≤ cdA 3 by decide), if_pos (show cdA 3 = -52 from rfl), e_entries hN h1, if_pos rfl]
    · have hH : Hel N a = false := by
        cases hh : Hel N a with
        | false => rfl
        | true => exact absurd hh hH
      obtain ⟨M2, b1, h2⟩ := e_revert (k := 0) hN h1 ha hu (Nat.zero_le _) hH
      have hR := WFa_bec (T := revT N a (nI 0)) (u := mI) hN (fun k hk => revT_v hN hk)
      have hn2 := bec_hn (T := revT N a (nI 0)) (u := mI) hN.1
      have hln := fun k hk => bec_lin (T := revT N a (nI 0)) (u := mI) hN.1 (k := k) hk
      have hlo := BI_bec (T := revT N a (nI 0)) (u := mI) hN.1.2.2.1.1 hN.1.2.2.2.2.2 20 (by omega)
      rw [revS_eq] at hR hn2 hln hlo
      have hc120 : (revS N a (nI 0)).1 ≤ 120 := hlo.2.2.2.2.2
      have hu2 : us (revS N a (nI 0)).2 a = true := by rw [us_cg hlo.1 ha]; exact hu
      have h2' : De (revS N a (nI 0)).2 (N :: S.take 3) T M2 := h2
      obtain ⟨M3, c1, h3⟩ := e_undo h2'
      have hlS : (S.take 3).length ≤ 3 := by rw [List.length_take]; omega
      refine ⟨M3, S.take 3, ?_, h3⟩
      rw [show f_L_revert (nI a) 0 M1 = _ from b1, Option.bind_some]
      dsimp only
      rw [if_pos (nI_ge0 (by omega)), e_line hR h2, show aLin (revS N a (nI 0)).2 (nI a) 2 = _ from aLin_v (l := 2) ha hu2 (by omega), Option.bind_some]
      dsimp only
      have hv : lin (revS N a (nI 0)).2 (6 * a + 2) = aWas N (nI a) 2 0 := by
        rw [hln _ (by omega), ew]
        unfold revT gN
        rw [show (6 * a + 2) / 6 = a by omega, hu, An_refl, if_pos (show (true && true) = true from rfl)]
        rfl
      have e109 : B_L_isPutBack_109 (nI (hn N)) M2 = some (1, M3) := by
        unfold B_L_isPutBack_109 B_L_isPutBack_114
        rw [if_neg (show ¬ (1 : Int32) = 0 by decide), c1, Option.bind_some]
        dsimp only
        rw [if_neg (show ¬ nI (S.take 3).length < 0 from nI_pos (by omega)), e_entries hN h3, if_pos rfl]
      rw [if_pos hv, nI_add, e_entries hR h2, hn2]
      by_cases hb : 150 < hn N + (revS N a (nI 0)).1
      · rw [if_pos (show (150 : Int32) < nI (hn N + (revS N a (nI 0)).1) from by show nI 150 < _; rw [nI_ltI (by omega) (by omega)]; exact hb), e109]
      · rw [if_neg (show ¬ (150 : Int32) < nI (hn N + (revS N a (nI 0)).1) from by show ¬ nI 150 < _; rw [nI_ltI (by omega) (by omega)]; exact hb), if_neg hb, if_pos rfl, e109]
end PB
