/-! ===== the desk alone: what it shows, its saved states, its text ===== -/
def SvL (M : Mem) (S : List Row) : Prop := S.length ≤ 4 ∧ (∀ r ∈ S, WFa r) ∧ ∃ P : Nat → Row, SVC M S.length P ∧ ∀ i, i < S.length → S[S.length - 1 - i]? = some (P i)
def TxD (M : Mem) (T : List Nat) : Prop := T.length ≤ 120 ∧ M.1 6 3 1 = nI T.length ∧ ∀ i v, T[i]? = some v → M.1 6 4 i = nI v ∧ v < 128
def De (N : Row) (S : List Row) (T : List Nat) (M : Mem) : Prop := RD (M.1 0) N ∧ SvL M S ∧ TxD M T
theorem SvL_cg {M M' : Mem} {S : List Row} (h : SvL M S) (h1 : M'.1 6 1 = M.1 6 1) (h2 : M'.1 6 2 = M.1 6 2) (hg : ∀ g, 2 ≤ g → g < 6 → M'.1 g = M.1 g) : SvL M' S := by
  obtain ⟨a, b, P, c, d⟩ := h
  exact ⟨a, b, P, SVC_cg c h1 h2 hg, d⟩
theorem TxD_cg {M M' : Mem} {T : List Nat} (h : TxD M T) (h3 : M'.1 6 3 = M.1 6 3) (h4 : M'.1 6 4 = M.1 6 4) : TxD M' T := ⟨h.1, by rw [h3]; exact h.2.1, fun i v hi => by rw [h4]; exact h.2.2 i v hi⟩
theorem De_fr {N R : Row} {S : List Row} {T : List Nat} {M M' : Mem} (h : De N S T M) (hr : RD (M'.1 0) R) (hF : Fr 0 M M') : De R S T M' :=
  ⟨hr, SvL_cg h.2.1 (by rw [hF.1 6 (by omega)]) (by rw [hF.1 6 (by omega)]) (fun g h1 _ => hF.1 g (by omega)), TxD_cg h.2.2 (by rw [hF.1 6 (by omega)]) (by rw [hF.1 6 (by omega)])⟩
/-- scratch alone has changed: the trial desk, row 17, the outline -/
theorem De_sc {N : Row} {S : List Row} {T : List Nat} {M M' : Mem} (h : De N S T M) (h0 : ∀ j, j ≠ 17 → M'.1 0 j = M.1 0 j) (hg : ∀ g, 2 ≤ g → g < 6 → M'.1 g = M.1 g) (h6 : ∀ j, j < 5 → M'.1 6 j = M.1 6 j) : De N S T M' :=
  ⟨RD_17 h0 h.1, SvL_cg h.2.1 (h6 1 (by omega)) (h6 2 (by omega)) hg, TxD_cg h.2.2 (h6 3 (by omega)) (h6 4 (by omega))⟩
theorem SvL_push {M' : Mem} {S : List Row} {N : Row} {P : Nat → Row} (h : S.length ≤ 4) (hw : ∀ r ∈ S, WFa r) (hd : ∀ i, i < S.length → S[S.length - 1 - i]? = some (P i)) (hN : WFa N) (hc : SVC M' (pushN S.length) (pushP S.length P N)) : SvL M' ((N :: S).take 4) := by
  have hl : ((N :: S).take 4).length = pushN S.length := by
    unfold pushN
    rw [List.length_take, List.length_cons]
    split <;> omega
  refine ⟨by rw [hl]; exact hc.1, fun r hr => ?_, pushP S.length P N, by rw [hl]; exact hc, fun i hi => ?_⟩
  · rcases List.mem_cons.mp (List.mem_of_mem_take hr) with rfl | h2
    · exact hN
    · exact hw r h2
  · rw [hl] at hi ⊢
    unfold pushN at hi ⊢
    unfold pushP
    by_cases h4 : S.length = 4
    · rw [if_pos h4] at hi ⊢
      rw [if_pos h4, List.getElem?_take_of_lt (by omega)]
      by_cases h3 : i = 3
      · subst h3
        rw [if_pos rfl]
        rfl
      · rw [if_neg h3, ← hd (i + 1) (by omega), h4, show 4 - 1 - i = (4 - 1 - (i + 1)) + 1 by omega, List.getElem?_cons_succ]
    · rw [if_neg h4] at hi ⊢
      rw [if_neg h4, List.getElem?_take_of_lt (by omega)]
      by_cases h3 : i = S.length
      · rw [if_pos h3, h3, show S.length + 1 - 1 - S.length = 0 by omega, List.getElem?_cons_zero]
      · rw [if_neg h3, ← hd i (by omega), show S.length + 1 - 1 - i = (S.length - 1 - i) + 1 by omega, List.getElem?_cons_succ]
/-- a call that can be undone -/
theorem De_u {N R : Row} {S : List Row} {T : List Nat} {M : Mem} {now : Mem → Option (Nat × Int32 × Mem)} {ans : Int32} (hN : WFa N) (h : De N S T M)
    (hnow : ∀ M1 : Mem, RD (M1.1 0) N → ∃ M2, now M1 = some (0, ans, M2) ∧ RD (M2.1 0) R ∧ Fr 0 M1 M2) : ∃ M2, (f_X6_push 0 M).bind now = some (0, ans, M2) ∧ De R ((N :: S).take 4) T M2 := by
  obtain ⟨hr, ⟨a, b, P, c, d⟩, x⟩ := h
  obtain ⟨M1, p1, p2, p3⟩ := c_push c hN hr
  obtain ⟨M2, n1, n2, n3⟩ := hnow M1 (by rw [p3.1]; exact hr)
  have hD : De N ((N :: S).take 4) T M1 := ⟨by rw [p3.1]; exact hr, SvL_push a b d hN p2, TxD_cg x (p3.2.2.2.2 3 (by omega) (by omega)) (p3.2.2.2.2 4 (by omega) (by omega))⟩
  exact ⟨M2, by rw [p1, Option.bind_some, n1], De_fr hD n2 n3⟩
/-- the last saved state comes back -/
theorem De_pop {N R : Row} {S : List Row} {T : List Nat} {M : Mem} (h : De N (R :: S) T M) : ∃ M', f_X6_pop 0 M = some M' ∧ De R S T M' ∧ M'.1 6 1 1 = nI S.length := by
  obtain ⟨hr, ⟨a, b, P, c, d⟩, x⟩ := h
  have e : P S.length = R := by
    have := d S.length (by rw [List.length_cons]; omega)
    rw [List.length_cons, show S.length + 1 - 1 - S.length = 0 by omega, List.getElem?_cons_zero] at this
    exact (Option.some.inj this).symm
  obtain ⟨M', p1, p2, p3, p4, p5, p6, p7⟩ := c_pop (n := S.length) (P := P) c (by rw [e]; exact b R List.mem_cons_self)
  rw [e] at p3
  rw [List.length_cons] at a
  refine ⟨M', p1, ⟨p3, ⟨by omega, fun r hr => b r (List.mem_cons_of_mem _ hr), P, p2, fun i hi => ?_⟩, TxD_cg x (p7 3 (by omega)) (p7 4 (by omega))⟩, p2.2.1⟩
  have := d i (by rw [List.length_cons]; omega)
  rw [List.length_cons, show S.length + 1 - 1 - i = (S.length - 1 - i) + 1 by omega, List.getElem?_cons_succ] at this
  exact this
