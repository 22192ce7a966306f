/-! ===== the whole run ===== -/
section RU
variable {xs : Nat → Int32} {L : Nat}
theorem past (hL : L ≤ 2560) {m : Nat} (hm : m ≤ 2560) : ((Int32.ofNat L - (5 : Int32)) < nI m) = (L < m + 5) := by
  show (nI L - nI 5 < nI m) = _
  by_cases h5 : 5 ≤ L
  · rw [pk_sub (b := 5) h5, nI_ltI (by omega) (by omega)]
    apply propext
    omega
  · have h0 : nI L - nI 5 < nI 0 := by
      rcases (show L = 0 ∨ L = 1 ∨ L = 2 ∨ L = 3 ∨ L = 4 by omega) with rfl | rfl | rfl | rfl | rfl <;> decide
    have h1 : nI 0 ≤ nI m := by rw [nI_leI (by omega) (by omega)]; omega
    apply propext
    exact ⟨fun _ => by omega, fun _ => Int32.lt_of_lt_of_le h0 h1⟩
theorem law_run (hU : UB) (hL : L ≤ 2560) (d : Nat) : ∀ (k : Nat) (M : Mem), k + d = 512 → SR k M → L_L_law_23 xs L (d + 1) (nI (5 * k)) M = some 1 := by
  induction d with
  | zero =>
    intro k M hk _
    have hk5 : k = 512 := hk
    subst hk5
    rw [L_L_law_23, if_pos (by rw [past hL (by omega)]; omega)]
  | succ d ih =>
    intro k M hk h
    by_cases hlt : (Int32.ofNat L - (5 : Int32)) < nI (5 * k)
    · rw [L_L_law_23, if_pos hlt]
    · have hlt2 := hlt
      rw [past hL (by omega)] at hlt2
      obtain ⟨M2, h2, e⟩ := law_step (xs := xs) hU h (by omega) hL (by omega) hlt (d + 1)
      rw [e]
      exact ih (k + 1) M2 (by omega) h2
def N0 : Row := upd (upd (fun _ => nI 0) 2 (nI 1)) 22 mI
theorem N0_o {k : Nat} (h : k ≠ 2) (h2 : k ≠ 22) : N0 k = nI 0 := by unfold N0; rw [upd_other h2, upd_other h]
theorem N0_22 : N0 22 = mI := by unfold N0; rw [upd_same]
theorem N0_2 : N0 2 = nI 1 := by unfold N0; rw [upd_other (by omega), upd_same]
theorem N0_us {t : Nat} (ht : t < 20) : us N0 t = decide (t = 0) := by
  unfold us
  by_cases h : t = 0
  · subst h; rw [N0_2]; rfl
  · rw [N0_o (by omega) (by omega), decide_eq_false h]; rfl
theorem N0_v {k b : Nat} (hb : 0 < b) (h : k ≠ 2) (h2 : k ≠ 22) : isV N0 k b := by
  unfold isV
  rw [N0_o h h2, cl_nI (by omega)]
  exact ⟨rfl, hb⟩
theorem N0_ck {c : Nat} (hc : c < 10) : ck N0 c = false := by
  unfold ck
  rw [N0_o (by omega) (by omega)]
  rfl
theorem N0_hd {c : Nat} (hc : c < 10) : hd N0 c = false := by
  unfold hd
  rw [N0_o (by omega) (by omega)]
  rfl
theorem N0_wq : wq N0 = 0 := by
  unfold wq
  rw [N0_o (by omega) (by omega), cl_nI (by omega)]
theorem N0_hn : hn N0 = 0 := by
  unfold hn
  rw [N0_o (by omega) (by omega), cl_nI (by omega)]
theorem N0_many : manyS N0 = 1 := by
  unfold manyS
  rw [cntN_c (q := fun t => decide (t = 0)) (fun t ht => N0_us ht)]
  rfl
theorem WFt_0 : WFt N0 := by
  have hno : ∀ t, 0 < t → t < 20 → us N0 t = true → False := fun t h0 ht hu => by
    rw [N0_us ht, decide_eq_true_eq] at hu
    omega
  refine ⟨fun t ht => ?_, N0_2, N0_22, fun t h0 ht hu => (hno t h0 ht hu).elim, ⟨fun _ => 0, fun t h0 ht hu => (hno t h0 ht hu).elim⟩, N0_v (by omega) (by omega) (by omega), fun t h0 ht hu => (hno t h0 ht hu).elim, fun t t' a b c a' b' c' e => (hno t a b c).elim⟩
  by_cases h : t = 0
  · subst h; exact Or.inr N0_2
  · exact Or.inl (N0_o (by omega) (by omega))
theorem WFa_0 : WFa N0 := by
  refine ⟨⟨WFt_0, ⟨N0_v (by omega) (by omega) (by omega), fun c hc => ⟨N0_v (by omega) (by omega) (by omega), N0_v (by omega) (by omega) (by omega), N0_v (by omega) (by omega) (by omega), N0_v (by omega) (by omega) (by omega), fun hk => ?_, fun hk => ?_⟩⟩, ⟨fun k hk => N0_v (by omega) (by omega) (by omega), fun k hk => N0_v (by omega) (by omega) (by omega)⟩, ⟨N0_v (by omega) (by omega) (by omega), fun k hk => ?_, fun k k' hk => ?_⟩, ?_, ⟨N0_v (by omega) (by omega) (by omega), fun e he => ?_⟩⟩, fun c c' h1 h2 h3 h4 => ?_⟩
  · rw [N0_ck hc] at hk; cases hk
  · have := hel_ck hk; rw [N0_ck hc] at this; cases this
  · rw [N0_wq] at hk; exact absurd hk (Nat.not_lt_zero _)
  · rw [N0_wq] at hk; exact absurd hk (Nat.not_lt_zero _)
  · sorry
  · rw [N0_hn] at he; exact absurd he (Nat.not_lt_zero _)
  · have := hel_ck h4; rw [N0_ck h1] at this; cases this
end RU
