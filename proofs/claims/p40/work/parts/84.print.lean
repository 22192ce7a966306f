/-! ===== the law's print: a number of the row alone ===== -/
/-- an answer that the row alone decides, and nothing changes -/
def Dt (N : Row) (f : Mem → Option (Int64 × Mem)) : Prop := ∃ v, ∀ S T M, De N S T M → f M = some (v, M)
section PT
variable {N : Row}
theorem nI_s1 (i : Nat) : nI i + (1 : Int32) = nI (i + 1) := nI_add i 1
theorem dt_281 (hN : WFa N) (hb : cl (N 0) < 134217728) : ∀ d i z, i + d = 6 → Dt N (fun M => L_L_print_281 (d + 1) z (nI i) M) := by
  intro d
  induction d with
  | zero =>
    intro i z hi
    have : i = 6 := by omega
    subst this
    exact ⟨z, fun S T M _ => by show L_L_print_281 (0 + 1) z (nI 6) M = some (z, M); rw [L_L_print_281]; exact if_pos (Int32.le_refl _)⟩
  | succ d ih =>
    intro i z hi
    obtain ⟨v, hv⟩ := ih (i + 1) (31 * z + (aUse N (nI i)).toInt64) (by omega)
    refine ⟨v, fun S T M h => ?_⟩
    dsimp only
    rw [L_L_print_281, if_neg (show ¬ (6 : Int32) ≤ nI i from fun z => by have z2 : nI 6 ≤ nI i := z; rw [nI_leI (by omega) (by omega)] at z2; omega), e_useBits hN hb h, Option.bind_some, nI_s1]
    exact hv S T M h
theorem dt_229 (hN : WFa N) (hb : cl (N 0) < 134217728) : ∀ d i z, i + d = 8 → Dt N (fun M => L_L_print_229 (d + 1) z (nI i) M) := by
  intro d
  induction d with
  | zero =>
    intro i z hi
    have : i = 8 := by omega
    subst this
    obtain ⟨v, hv⟩ := dt_281 hN hb 6 0 z (by omega)
    refine ⟨v, fun S T M h => ?_⟩
    dsimp only
    rw [L_L_print_229, if_pos (show (8 : Int32) ≤ nI 8 from Int32.le_refl _)]
    exact hv S T M h
  | succ d ih =>
    intro i z hi
    obtain ⟨v, hv⟩ := ih (i + 1) (31 * (31 * (31 * z + (aWai N (nI i) 0).toInt64) + (aWai N (nI i) 1).toInt64) + (aWai N (nI i) 2).toInt64) (by omega)
    refine ⟨v, fun S T M h => ?_⟩
    dsimp only
    rw [L_L_print_229, if_neg (show ¬ (8 : Int32) ≤ nI i from fun z => by have z2 : nI 8 ≤ nI i := z; rw [nI_leI (by omega) (by omega)] at z2; omega), e_waitingAt hN h, Option.bind_some, e_waitingAt hN h, Option.bind_some, e_waitingAt hN h, Option.bind_some, nI_s1]
    exact hv S T M h
theorem dt_153 (hN : WFa N) {k : Int64 → Int32 → Mem → Option (Int64 × Mem)} {c : Nat} (hk : ∀ z, Dt N (fun M => k z (nI (c + 1)) M)) : ∀ d i z, i + d = 6 → Dt N (fun M => L_L_print_153 k (nI c) (d + 1) z (nI i) M) := by
  intro d
  induction d with
  | zero =>
    intro i z hi
    have : i = 6 := by omega
    subst this
    obtain ⟨v, hv⟩ := hk (31 * (31 * z + (aCop N (nI c) (aChk N (nI c) 1) 0 true).toInt64) + (aCop N (nI c) (aChk N (nI c) 1) 0 false).toInt64)
    refine ⟨v, fun S T M h => ?_⟩
    dsimp only
    rw [L_L_print_153, if_pos (show (6 : Int32) ≤ nI 6 from Int32.le_refl _), e_checkOut hN h, Option.bind_some]
    dsimp only
    rw [show f_L_copied (nI c) (aChk N (nI c) 1) 0 1 M = _ from e_copied hN h (nI c) (aChk N (nI c) 1) 0 true, Option.bind_some]
    dsimp only
    rw [e_checkOut hN h, Option.bind_some]
    dsimp only
    rw [show f_L_copied (nI c) (aChk N (nI c) 1) 0 0 M = _ from e_copied hN h (nI c) (aChk N (nI c) 1) 0 false, Option.bind_some, nI_s1]
    exact hv S T M h
  | succ d ih =>
    intro i z hi
    obtain ⟨v, hv⟩ := ih (i + 1) (31 * z + (aChk N (nI c) (nI i)).toInt64) (by omega)
    refine ⟨v, fun S T M h => ?_⟩
    dsimp only
    rw [L_L_print_153, if_neg (show ¬ (6 : Int32) ≤ nI i from fun z => by have z2 : nI 6 ≤ nI i := z; rw [nI_leI (by omega) (by omega)] at z2; omega), e_checkOut hN h, Option.bind_some, nI_s1]
    exact hv S T M h
theorem dt_144 (hN : WFa N) (hb : cl (N 0) < 134217728) : ∀ d i z, i + d = 10 → Dt N (fun M => L_L_print_144 (d + 1) z (nI i) M) := by
  intro d
  induction d with
  | zero =>
    intro i z hi
    have : i = 10 := by omega
    subst this
    obtain ⟨v, hv⟩ := dt_229 hN hb 8 0 z (by omega)
    refine ⟨v, fun S T M h => ?_⟩
    dsimp only
    rw [L_L_print_144, if_pos (show (10 : Int32) ≤ nI 10 from Int32.le_refl _)]
    exact hv S T M h
  | succ d ih =>
    intro i z hi
    obtain ⟨v, hv⟩ := dt_153 hN (k := L_L_print_144 (d + 1)) (c := i) (fun z => ih (i + 1) z (by omega)) 6 0 z (by omega)
    refine ⟨v, fun S T M h => ?_⟩
    dsimp only
    rw [L_L_print_144, if_neg (show ¬ (10 : Int32) ≤ nI i from fun z => by have z2 : nI 10 ≤ nI i := z; rw [nI_leI (by omega) (by omega)] at z2; omega)]
    exact hv S T M h
theorem dt_95 (hN : WFa N) {k : Int64 → Int32 → Mem → Option (Int64 × Mem)} {c : Nat} (hk : ∀ z, Dt N (fun M => k z (nI (c + 1)) M)) : ∀ d i z, i + d = 6 → Dt N (fun M => L_L_print_95 k (nI c) (d + 1) z (nI i) M) := by
  intro d
  induction d with
  | zero =>
    intro i z hi
    have : i = 6 := by omega
    subst this
    obtain ⟨v, hv⟩ := hk (31 * z + (aHol N (nI c)).toInt64)
    refine ⟨v, fun S T M h => ?_⟩
    dsimp only
    rw [L_L_print_95, if_pos (show (6 : Int32) ≤ nI 6 from Int32.le_refl _), e_holders hN h, Option.bind_some, nI_s1]
    exact hv S T M h
  | succ d ih =>
    intro i z hi
    obtain ⟨v, hv⟩ := ih (i + 1) (31 * z + (aLin N (nI c) (nI i)).toInt64) (by omega)
    refine ⟨v, fun S T M h => ?_⟩
    dsimp only
    rw [L_L_print_95, if_neg (show ¬ (6 : Int32) ≤ nI i from fun z => by have z2 : nI 6 ≤ nI i := z; rw [nI_leI (by omega) (by omega)] at z2; omega), e_line hN h, Option.bind_some, nI_s1]
    exact hv S T M h
theorem dt_65 (hN : WFa N) {k : Int64 → Int32 → Mem → Option (Int64 × Mem)} {c : Nat} (hk : ∀ z, Dt N (fun M => k z (nI (c + 1)) M)) : ∀ d i z, i + d = 5 → Dt N (fun M => L_L_print_65 k (nI c) (d + 1) z (nI i) M) := by
  intro d
  induction d with
  | zero =>
    intro i z hi
    have : i = 5 := by omega
    subst this
    obtain ⟨v, hv⟩ := dt_95 hN hk 6 0 z (by omega)
    refine ⟨v, fun S T M h => ?_⟩
    dsimp only
    rw [L_L_print_65, if_pos (show (5 : Int32) ≤ nI 5 from Int32.le_refl _)]
    exact hv S T M h
  | succ d ih =>
    intro i z hi
    obtain ⟨v, hv⟩ := ih (i + 1) (31 * z + (aSec N (nI c) (nI i)).toInt64) (by omega)
    refine ⟨v, fun S T M h => ?_⟩
    dsimp only
    rw [L_L_print_65, if_neg (show ¬ (5 : Int32) ≤ nI i from fun z => by have z2 : nI 5 ≤ nI i := z; rw [nI_leI (by omega) (by omega)] at z2; omega), e_section hN h, Option.bind_some, nI_s1]
    exact hv S T M h
theorem dt_56 (hN : WFa N) (hb : cl (N 0) < 134217728) : ∀ d i z, i + d = 20 → Dt N (fun M => L_L_print_56 (d + 1) z (nI i) M) := by
  intro d
  induction d with
  | zero =>
    intro i z hi
    have : i = 20 := by omega
    subst this
    obtain ⟨v, hv⟩ := dt_144 hN hb 10 0 z (by omega)
    refine ⟨v, fun S T M h => ?_⟩
    dsimp only
    rw [L_L_print_56, if_pos (show (20 : Int32) ≤ nI 20 from Int32.le_refl _)]
    exact hv S T M h
  | succ d ih =>
    intro i z hi
    obtain ⟨v, hv⟩ := dt_65 hN (k := L_L_print_56 (d + 1)) (c := i) (fun z => ih (i + 1) z (by omega)) 5 0 z (by omega)
    refine ⟨v, fun S T M h => ?_⟩
    dsimp only
    rw [L_L_print_56, if_neg (show ¬ (20 : Int32) ≤ nI i from fun z => by have z2 : nI 20 ≤ nI i := z; rw [nI_leI (by omega) (by omega)] at z2; omega)]
    exact hv S T M h
/-- print: the same number wherever the desk shows N; the oldest saved state may be lost by it -/
theorem p_print (hN : WFa N) (hb : cl (N 0) < 134217728) : ∃ v, ∀ S T M, De N S T M → ∃ M', f_L_print M = some (v, M') ∧ De N (S.take 3) T M' := by
  obtain ⟨v, hv⟩ := dt_56 hN hb 20 0 (31 * (31 * (31 * (31 * (nI (manyS N)).toInt64 + (nI (hn N)).toInt64) + (nI (wq N)).toInt64) + (pasS 0 N 0).toInt64)) (by omega)
  refine ⟨v, fun S T M h => ?_⟩
  obtain ⟨M1, a1, a2⟩ := e_pass (n := 0) hN h (by omega) (by omega)
  have a2 : De N (N :: S.take 3) T M1 := a2
  obtain ⟨M2, b1, b2'⟩ := e_undo a2
  refine ⟨M2, ?_, b2'⟩
  have hl : (S.take 3).length ≤ 3 := by rw [List.length_take]; omega
  unfold f_L_print
  rw [show f_L_pass 0 M = _ from a1, Option.bind_some, b1, Option.bind_some]
  dsimp only
  rw [if_neg (show ¬ nI (S.take 3).length < 0 from nI_pos (by omega)), e_sections hN h, e_entries hN h, e_waiting hN h]
  exact hv _ _ _ b2'
end PT
