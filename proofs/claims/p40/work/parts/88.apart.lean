/-! ===== held check-outs do not conflict ===== -/
section AP
variable {N : Row} {S : List Row} {T : List Nat} {M : Mem}
theorem aSec_0 {s : Nat} (hs : s < 20) (hu : us N s = true) : aSec N (nI s) 0 = N (22 + s) := by
  unfold aSec
  rw [isS_nI hs, hu, if_pos rfl, if_pos (by decide), cl_nI (by omega)]
  rfl
theorem isIn_0 (x : Int32) (t : Nat) : B_L_isIn_21 (nI t) x M = some (b2 (decide (x = nI t)), M) := by
  unfold B_L_isIn_21
  by_cases h : x = nI t
  · rw [if_pos h, decide_eq_true h]; rfl
  · rw [if_neg h, decide_eq_false h]; rfl
theorem p_isIn (hN : WFa N) (h : De N S T M) {s t : Nat} (hs : s < 20) (hu : us N s = true) (ht : t < 20) : f_L_isIn (nI s) (nI t) M = some (b2 (An N s t), M) := by
  obtain ⟨r, r1, r2, r3⟩ := rank20 hN.1.1
  have key : ∀ n s, s < 20 → us N s = true → r s + 2 ≤ n → L_L_isIn_2 (nI t) n (nI s) M = some (b2 (An N s t), M) := by
    intro n
    induction n with
    | zero => intro s _ _ h3; omega
    | succ n ih =>
      intro s hs hu hn
      rw [L_L_isIn_2, if_neg (show ¬ nI s < 0 from nI_pos (by omega))]
      by_cases hst : s = t
      · subst hst
        rw [if_pos rfl, isIn_0, decide_eq_true rfl, An_refl]
      · rw [if_neg (show ¬ nI s = nI t by rw [nI_eq (by omega) (by omega)]; exact hst), e_section hN h, aSec_0 hs hu, Option.bind_some]
        dsimp only
        by_cases h0 : s = 0
        · subst h0
          rw [show N (22 + 0) = mI from hN.1.1.2.2.1]
          obtain ⟨n, rfl⟩ : ∃ m, n = m + 1 := ⟨n - 1, by omega⟩
          rw [L_L_isIn_2, if_pos (show mI < 0 by decide), isIn_0, An_0, decide_eq_false (show ¬ mI = nI t by rw [m1_eq_nI (by omega)]; exact id), beq_no hst]
        · obtain ⟨e, p1, p2⟩ := hN.1.1.2.2.2.1 s (by omega) hs hu
          have := r2 s (by omega) hs hu
          rw [e, ih (pa N s) p1 p2 (by omega), An_s hN.1.1 (by omega) hs hu, beq_no hst, Bool.false_or]
  have := r1 s hs hu
  exact key 22 s hs hu (by omega)
theorem aChk_3 (hN : WFa N) {c : Nat} (hc : c < 10) : aChk N (nI c) 3 = if ck N c = true then nI (hd N c).toNat else -53 := by
  unfold aChk
  rw [isC_nI hc]
  cases hk : ck N c with
  | false => rfl
  | true =>
    rw [if_pos rfl, if_pos rfl, if_pos (by decide), cl_nI (by omega), ← hd_eq hN.1.2.1 hc]
    rfl
theorem aChk_4 (hN : WFa N) {c : Nat} (hc : c < 10) (hk : ck N c = true) : aChk N (nI c) 4 = nI (sh N c).toNat := by
  unfold aChk
  rw [isC_nI hc, hk, if_pos rfl, if_pos (by decide), cl_nI (by omega), ← sh_eq hN.1.2.1 hc]
  rfl
theorem aChk_1 (hN : WFa N) {c : Nat} (hc : c < 10) (hk : ck N c = true) : aChk N (nI c) 1 = nI (sec N c) := by
  unfold aChk
  rw [isC_nI hc, hk, if_pos rfl, if_pos (by decide), cl_nI (by omega)]
  exact sec_eq hN.1.2.1 hc hk
theorem aChk_0 (hN : WFa N) {c : Nat} (hc : c < 10) (hk : ck N c = true) : aChk N (nI c) 0 = nI (usr N c) := by
  unfold aChk
  rw [isC_nI hc, hk, if_pos rfl, if_pos (by decide), cl_nI (by omega)]
  exact usr_eq hN.1.2.1 hc
theorem aChk_5 {c : Nat} (hc : c < 10) (hk : ck N c = true) : aChk N (nI c) 5 = nI (cntEd N c) := by
  unfold aChk
  rw [isC_nI hc, hk, if_pos rfl, if_pos (by decide), cl_nI (by omega)]
  rfl
theorem aChk_no {c : Nat} (hc : c < 10) (hk : ck N c = false) (x : Int32) : aChk N (nI c) x = -53 := by
  unfold aChk
  rw [isC_nI hc, hk]
  rfl
theorem aChk_3h (hN : WFa N) {c : Nat} (hc : c < 10) : (aChk N (nI c) 3 = 1) = (hel N c = true) := by
  rw [aChk_3 hN hc]
  unfold hel
  cases ck N c <;> cases hd N c <;> decide
theorem p_apart127 (hN : WFa N) (h : De N S T M) (k4 : Int32 → Int32 → Mem → Option (Int32 × Mem)) {a : Nat} (ha : a < 10) : ∃ M', B_L_areApart_127 k4 1 (nI a) M = k4 1 (nI (a + 1)) M' ∧ De N S T M' := by
  unfold B_L_areApart_127
  rw [if_neg (show ¬ (1 : Int32) = 0 by decide), e_checkOut hN h, Option.bind_some]
  dsimp only
  have e175 : ∀ M, B_L_areApart_175 k4 (nI a) M = k4 1 (nI (a + 1)) M := fun M => by unfold B_L_areApart_175 B_L_areApart_180; rw [nI_s1]
  rw [aChk_3 hN ha]
  cases hk : ck N a with
  | false => exact ⟨M, by rw [if_neg (show ¬ false = true by decide), if_pos (show (-53 : Int32) < 0 by decide), e175], h⟩
  | true =>
    rw [if_pos rfl]
    cases hd1 : hd N a with
    | true =>
      have ecf : aCnf N (nI a) = 0 := by
        unfold aCnf cntCf
        rw [isC_nI ha, hk, if_pos rfl, cl_nI (by omega), if_pos hd1]
        rfl
      refine ⟨M, ?_, h⟩
      rw [if_neg (show ¬ nI (true.toNat) < 0 by decide), e_checkOut hN h, Option.bind_some]
      dsimp only
      rw [aChk_3 hN ha, hk, hd1, if_pos rfl, if_pos (show nI (true.toNat) = 1 from rfl), e_conflicts hN h, Option.bind_some, ecf, if_pos rfl, e175]
    | false =>
      have hsh : sh N a = false := by
        cases hs : sh N a with
        | false => rfl
        | true =>
          have := ((hN.1.2.1.2 a ha).2.2.2.2.1 hk).2.2 hs
          rw [hd1] at this
          cases this
      obtain ⟨M', b1, b2'⟩ := e_ifBroken hN h (nI a)
      have eib : aIfB N (nI a) = 0 := by
        unfold aIfB hel
        rw [isC_nI ha, hk, if_pos rfl, cl_nI (by omega), hd1, Bool.and_false]
        rfl
      rw [eib] at b1
      refine ⟨M', ?_, b2'⟩
      rw [if_neg (show ¬ nI (false.toNat) < 0 by decide), e_checkOut hN h, Option.bind_some]
      dsimp only
      rw [aChk_3 hN ha, hk, hd1, if_pos rfl, if_neg (show ¬ nI (false.toNat) = 1 by decide)]
      unfold B_L_areApart_158
      rw [e_checkOut hN h, Option.bind_some]
      dsimp only
      rw [aChk_4 hN ha hk, hsh, if_pos (show nI (false.toNat) = 0 from rfl), b1, Option.bind_some, if_pos rfl, e175]
theorem p_apart16 (hN : WFa N) (h : De N S T M) (k4 : Int32 → Int32 → Mem → Option (Int32 × Mem)) {a : Nat} (ha : a < 10) : ∀ d b, b + d = a → ∀ n, d < n → ∃ M', L_L_areApart_16 k4 (nI a) n 1 (nI b) M = k4 1 (nI (a + 1)) M' ∧ De N S T M' := by
  intro d
  induction d with
  | zero =>
    intro b hb n hn
    obtain ⟨n, rfl⟩ : ∃ m, n = m + 1 := ⟨n - 1, by omega⟩
    have : b = a := by omega
    subst this
    rw [L_L_areApart_16, if_pos (Int32.le_refl _)]
    exact p_apart127 hN h k4 ha
  | succ d ih =>
    intro b hb n hn
    obtain ⟨n, rfl⟩ : ∃ m, n = m + 1 := ⟨n - 1, by omega⟩
    have hb10 : b < 10 := by omega
    obtain ⟨M', i1, i2⟩ := ih (b + 1) (by omega) n (by omega)
    refine ⟨M', ?_, i2⟩
    have e121 : ∀ x M, B_L_areApart_121 k4 (L_L_areApart_16 k4 (nI a) n) x (nI a) (nI b) M = L_L_areApart_16 k4 (nI a) n x (nI (b + 1)) M := fun x M => by unfold B_L_areApart_121; rw [nI_s1]
    rw [L_L_areApart_16, if_neg (show ¬ nI a ≤ nI b by rw [nI_leI (by omega) (by omega)]; omega), if_neg (show ¬ (1 : Int32) = 0 by decide), e_checkOut hN h, Option.bind_some]
    dsimp only
    have e49 : B_L_areApart_49 k4 (L_L_areApart_16 k4 (nI a) n) 1 (nI a) (nI b) M = k4 1 (nI (a + 1)) M' := by
      unfold B_L_areApart_49 B_L_areApart_50
      rw [if_pos rfl, e121]
      exact i1
    by_cases h1 : hel N a = true
    · rw [if_pos (by rw [aChk_3h hN ha]; exact h1), e_checkOut hN h, Option.bind_some]
      dsimp only
      by_cases h2 : hel N b = true
      · have hk1 := hel_ck h1
        have hk2 := hel_ck h2
        have s1 := sec_lt hN.1.2.1 ha hk1
        have s2 := sec_lt hN.1.2.1 hb10 hk2
        have u1 := sec_us hN.1.2.1 ha hk1
        have u2 := sec_us hN.1.2.1 hb10 hk2
        rw [if_pos (by rw [aChk_3h hN hb10]; exact h2)]
        have e95 : Ov N (sec N a) (sec N b) = true → B_L_areApart_95 k4 (L_L_areApart_16 k4 (nI a) n) (nI a) (nI b) M = k4 1 (nI (a + 1)) M' := fun ho => by
          obtain ⟨g1, g2⟩ := hN.2 a b ha hb10 (by omega) h1 h2 ho
          unfold B_L_areApart_95
          rw [e_checkOut hN h, Option.bind_some]
          dsimp only
          rw [aChk_4 hN ha hk1, g1, if_pos (show nI (true.toNat) = 1 from rfl), e_checkOut hN h, Option.bind_some]
          dsimp only
          rw [aChk_4 hN hb10 hk2, g2, if_pos (show nI (true.toNat) = 1 from rfl)]
          unfold B_L_areApart_120
          rw [e121]
          exact i1
        unfold B_L_areApart_50
        rw [if_neg (show ¬ (1 : Int32) = 0 by decide), e_checkOut hN h, Option.bind_some]
        dsimp only
        rw [e_checkOut hN h, Option.bind_some]
        dsimp only
        rw [aChk_1 hN ha hk1, aChk_1 hN hb10 hk2, p_isIn hN h s1 u1 s2, Option.bind_some]
        dsimp only
        cases hA : An N (sec N a) (sec N b) with
        | true =>
          rw [if_neg (show ¬ b2 true = 0 by decide)]
          exact e95 (by unfold Ov; rw [hA]; rfl)
        | false =>
          rw [if_pos (show b2 false = 0 from rfl), e_checkOut hN h, Option.bind_some]
          dsimp only
          rw [e_checkOut hN h, Option.bind_some]
          dsimp only
          rw [aChk_1 hN ha hk1, aChk_1 hN hb10 hk2, p_isIn hN h s2 u2 s1, Option.bind_some]
          dsimp only
          cases hB : An N (sec N b) (sec N a) with
          | true =>
            rw [if_neg (show ¬ b2 true = 0 by decide)]
            exact e95 (by unfold Ov; rw [hB, Bool.or_true])
          | false =>
            rw [if_pos (show b2 false = 0 from rfl), e121]
            exact i1
      · rw [if_neg (by rw [aChk_3h hN hb10]; exact h2)]
        exact e49
    · rw [if_neg (by rw [aChk_3h hN ha]; exact h1)]
      exact e49
theorem p_apart (hN : WFa N) (h : De N S T M) : ∃ M', f_L_areApart M = some (1, M') ∧ De N S T M' := by
  have key : ∀ d a, a + d = 10 → ∀ M, De N S T M → ∃ M', L_L_areApart_4 (d + 1) 1 (nI a) M = some (1, M') ∧ De N S T M' := by
    intro d
    induction d with
    | zero =>
      intro a ha M h
      have : a = 10 := by omega
      subst this
      exact ⟨M, by rw [L_L_areApart_4, if_pos (show (10 : Int32) ≤ nI 10 from Int32.le_refl _), if_pos (show isb 1 = true by decide)], h⟩
    | succ d ih =>
      intro a ha M h
      obtain ⟨M1, a1, h1⟩ := p_apart16 hN h (L_L_areApart_4 (d + 1)) (a := a) (by omega) a 0 (by omega) 11 (by omega)
      obtain ⟨M2, a2, h2⟩ := ih (a + 1) (by omega) M1 h1
      refine ⟨M2, ?_, h2⟩
      rw [L_L_areApart_4, if_neg (show ¬ (10 : Int32) ≤ nI a from fun z => by have z2 : nI 10 ≤ nI a := z; rw [nI_leI (by omega) (by omega)] at z2; omega), if_neg (show ¬ (1 : Int32) = 0 by decide)]
      exact a1.trans a2
  exact key 10 0 (by omega) M h
end AP
