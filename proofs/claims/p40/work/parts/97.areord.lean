/-! ===== orders are their calls ===== -/
section OA
variable {N : Row} {S : List Row} {T : List Nat} {M : Mem}
def Pr (N : Row) (was : Int64) : Prop := ∀ S T M, De N S T M → ∃ M', f_L_print M = some (was, M') ∧ De N (S.take 3) T M'
theorem nI_p0 {n : Nat} (h : n < 2147483648) : ¬ nI n < 0 := nI_pos h
theorem cdA_n1 (k : Nat) : cdA k < -1 := by
  unfold cdA
  split
  · decide
  · split <;> decide
theorem cdA_n0 (k : Nat) : cdA k < 0 := by
  unfold cdA
  split
  · decide
  · split <;> decide
theorem brk_0 {c k : Nat} (hN : WFa N) (hc : c < 10) (hk : k < 2) : brkS N c k = N k := by
  unfold brkS
  rw [srvS_o (WFa_lose hN hc) (by omega)]
  unfold loseS closeS
  by_cases h : sh N c = true
  · rw [if_pos h, setC_o (by omega)]
  · rw [if_neg h, setC_o (by omega)]
theorem ao_end {was : Int64} (hw : Pr N was) (h : De N S T M) (hT : T.length = 29 + 1) : ∃ M', B_L_areOrders_293 was 1 M = some (1, M') ∧ De N (S.take 3) [] M' := by
  obtain ⟨M1, a1, h1⟩ := hw S T M h
  obtain ⟨M2, a2, h2⟩ := e_clearText h1
  refine ⟨M2, ?_, h2⟩
  unfold B_L_areOrders_293
  rw [if_neg (show ¬ (1 : Int32) = 0 by decide), a1, Option.bind_some]
  dsimp only
  rw [if_pos (lcv_0.mpr rfl), a2, Option.bind_some]
  dsimp only
  rw [if_neg (by rw [hT]; exact nI_np (by omega))]
theorem ao_last {was : Int64} (hw : Pr N was) (h : De N S T M) (hT : T.length = 29 + 1) (k n : Nat) : ∃ M', L_L_areOrders_261 was (nI k) (n + 1) 1 (nI k) M = some (1, M') ∧ De N (S.take 3) [] M' := by
  obtain ⟨M1, a1, h1⟩ := ao_end hw h hT
  refine ⟨M1, ?_, h1⟩
  rw [L_L_areOrders_261, if_pos (Int32.le_refl _), a1]
theorem ao_step {R : Row} (was : Int64) (h : De R (N :: S) T M) (hS : S.length ≤ 4) {k i : Nat} (hk : k < 5) (hi : i < k) (n : Nat) : ∃ M', L_L_areOrders_261 was (nI k) (n + 1) 1 (nI i) M = L_L_areOrders_261 was (nI k) n 1 (nI (i + 1)) M' ∧ De N S T M' := by
  obtain ⟨M1, a1, h1⟩ := e_undo h
  refine ⟨M1, ?_, h1⟩
  rw [L_L_areOrders_261, if_neg (show ¬ nI k ≤ nI i by rw [nI_leI (by omega) (by omega)]; omega), if_neg (show ¬ (1 : Int32) = 0 by decide), a1, Option.bind_some]
  dsimp only
  rw [if_neg (nI_p0 (by omega))]
  unfold B_L_areOrders_285
  rw [nI_1]
theorem tk_le (n : Nat) (S : List Row) : (S.take n).length ≤ n := by rw [List.length_take]; omega
theorem ao_152 {u s c v : Nat} {e : Bool} {was bb : Int64} {told : Int32} (hN : WFa N) (hb : cl (N 0) + 1000 < 134217728) (hu : u < 6) (hs : s < 20) (hc : c < 10) (hv : v < 1000) (hT : T.length = 29 + 1) (h : De N S T M) (hw : Pr N was)
    (ht : (cdReq (pasS (v % 4) N) (nI u) (nI s) (nI (1 + v % 9)) e ≠ 0 ∧ told = -1001) ∨
      (cdReq (pasS (v % 4) N) (nI u) (nI s) (nI (1 + v % 9)) e = 0 ∧ cdBrk (reqS (pasS (v % 4) N) u s (1 + v % 9) e).2 (nI c) ≠ 0 ∧ told = -1002) ∨
      (cdReq (pasS (v % 4) N) (nI u) (nI s) (nI (1 + v % 9)) e = 0 ∧ cdBrk (reqS (pasS (v % 4) N) u s (1 + v % 9) e).2 (nI c) = 0 ∧ told = 3 ∧ Pr (brkS (reqS (pasS (v % 4) N) u s (1 + v % 9) e).2 c) bb)) : ∃ M' S', B_L_areOrders_152 (nI u) (nI s) (nI c) (nI v) (b2 e) was told bb 1 M = some (1, M') ∧ De N S' [] M' := by
  have z : ¬ (1 : Int32) = 0 := by decide
  have e4 : ireM (nI v) (4 : Int32) = nI (v % 4) := by
    rw [show (4 : Int32) = nI 4 from rfl, rem_nI (by omega) (by omega) (by omega)]
  have e9 : (1 : Int32) + ireM (nI v) (9 : Int32) = nI (1 + v % 9) := by
    rw [show (9 : Int32) = nI 9 from rfl, rem_nI (by omega) (by omega) (by omega), show (1 : Int32) = nI 1 from rfl, nI_add]
  have hbp : cl (N 0) + v % 4 < 134217728 := by omega
  obtain ⟨w1, w2, w3⟩ := WFa_pas hN (v % 4) hbp
  obtain ⟨M1, a1, h1⟩ := e_pass (n := v % 4) hN h (by omega) hbp
  have h1 : De (pasS (v % 4) N) (N :: S.take 3) T M1 := h1
  obtain ⟨t1, t2⟩ := N0_within w1
  have g1 : ¬ pasS (v % 4) N 0 < 0 := by rw [t1]; exact nI_p0 (by omega)
  generalize hN1 : pasS (v % 4) N = N1 at *
  rcases ht with ⟨h0, rfl⟩ | ⟨h0, h2, rfl⟩ | ⟨h0, h2, rfl, hw3⟩
  · obtain ⟨M2, b1, k1⟩ := ao_step was h1 (Nat.le_succ_of_le (tk_le 3 S)) (k := 1) (i := 0) (by omega) (by omega) 4
    obtain ⟨M3, c1, k2⟩ := ao_last hw k1 hT 1 3
    refine ⟨M3, _, ?_, k2⟩
    unfold B_L_areOrders_152
    rw [if_neg z, e4, a1, Option.bind_some]
    dsimp only
    rw [if_neg g1, e9, e_request_no w1 h1 (nI u) (nI s) (nI (1 + v % 9)) e h0, Option.bind_some]
    dsimp only
    rw [if_pos (cdA_n1 _)]
    unfold B_L_areOrders_210
    rw [if_neg z, if_neg (by decide), if_pos (by decide)]
    exact b1.trans c1
  · obtain ⟨M2, b1, h3, w4⟩ := e_request (t := 1 + v % 9) w1 h1 e hu hs (by omega) h0
    have h3 : De (reqS N1 u s (1 + v % 9) e).2 (N1 :: N :: (S.take 3).take 2) T M2 := h3
    obtain ⟨M3, c1, k1⟩ := ao_step was h3 (Nat.succ_le_succ (Nat.le_succ_of_le (tk_le 2 _))) (k := 2) (i := 0) (by omega) (by omega) 4
    obtain ⟨M4, d1, k2⟩ := ao_step was k1 (Nat.le_trans (tk_le 2 _) (by omega)) (k := 2) (i := 0 + 1) (by omega) (by omega) 3
    obtain ⟨M5, f1, k3⟩ := ao_last hw k2 hT 2 2
    refine ⟨M5, _, ?_, k3⟩
    unfold B_L_areOrders_152
    rw [if_neg z, e4, a1, Option.bind_some]
    dsimp only
    rw [if_neg g1, e9, b1, Option.bind_some]
    dsimp only
    rw [if_neg (show ¬ (reqS N1 u s (1 + v % 9) e).1 < (-1 : Int32) from req_a), e_breakUp_no w4 h3 (nI c) h2, Option.bind_some]
    dsimp only
    rw [if_pos (cdA_n0 _)]
    unfold B_L_areOrders_208 B_L_areOrders_210
    rw [if_neg z, if_neg (by decide), if_pos (by decide)]
    exact c1.trans (d1.trans f1)
  · obtain ⟨M2, b1, h3, w4⟩ := e_request (t := 1 + v % 9) w1 h1 e hu hs (by omega) h0
    have h3 : De (reqS N1 u s (1 + v % 9) e).2 (N1 :: N :: (S.take 3).take 2) T M2 := h3
    obtain ⟨y1, y2⟩ := cdBrk_z hc h2
    obtain ⟨M3, c1, h4⟩ := e_breakUp w4 h3 hc y1 y2
    have ga : ¬ (reqS N1 u s (1 + v % 9) e).1 < (-1 : Int32) := req_a
    generalize reqS N1 u s (1 + v % 9) e = Q at *
    have h4 : De (brkS Q.2 c) (Q.2 :: N1 :: N :: ((S.take 3).take 2).take 1) T M3 := h4
    obtain ⟨M4, d1, h5⟩ := hw3 _ _ _ h4
    have h5 : De (brkS Q.2 c) (Q.2 :: N1 :: N :: (((S.take 3).take 2).take 1).take 0) T M4 := h5
    obtain ⟨M5, f1, k1⟩ := ao_step was h5 (Nat.succ_le_succ (Nat.succ_le_succ (Nat.le_trans (tk_le 0 _) (by omega)))) (k := 3) (i := 0) (by omega) (by omega) 4
    obtain ⟨M6, f2, k2⟩ := ao_step was k1 (Nat.succ_le_succ (Nat.le_trans (tk_le 0 _) (by omega))) (k := 3) (i := 0 + 1) (by omega) (by omega) 3
    obtain ⟨M7, f3, k3⟩ := ao_step was k2 (Nat.le_trans (tk_le 0 _) (by omega)) (k := 3) (i := 0 + 1 + 1) (by omega) (by omega) 2
    obtain ⟨M8, f4, k4⟩ := ao_last hw k3 hT 3 1
    obtain ⟨eu, eu2⟩ := (w4.1.2.1.2 c hc).2.1
    refine ⟨M8, _, ?_, k4⟩
    unfold B_L_areOrders_152
    rw [if_neg z, e4, a1, Option.bind_some]
    dsimp only
    rw [if_neg g1, e9, b1, Option.bind_some]
    dsimp only
    rw [if_neg ga, c1, Option.bind_some]
    dsimp only
    rw [if_neg (by rw [eu]; exact nI_p0 (by omega))]
    unfold B_L_areOrders_208 B_L_areOrders_210
    rw [if_neg z, if_pos rfl, if_pos rfl, d1, Option.bind_some]
    dsimp only
    rw [if_pos (lcv_0.mpr rfl)]
    exact f1.trans (f2.trans (f3.trans f4))
theorem ao_137 {u s c v : Nat} {e : Bool} {was bb : Int64} {told : Int32} (h : De N S T M) (hw : Pr N was) : ∃ M', B_L_areOrders_137 (nI u) (nI s) (nI c) (nI v) (b2 e) was told bb M = B_L_areOrders_152 (nI u) (nI s) (nI c) (nI v) (b2 e) was told bb 1 M' ∧ De N (S.take 3) T M' := by
  obtain ⟨M1, a1, h1⟩ := hw S T M h
  refine ⟨M1, ?_, h1⟩
  unfold B_L_areOrders_137
  rw [a1, Option.bind_some]
  dsimp only
  rw [if_pos (lcv_0.mpr rfl)]
theorem p_orders {u s c v : Nat} {e : Bool} (hN : WFa N) (hb : cl (N 0) + 1000 < 134217728) (hu : u < 6) (hs : s < 20) (hc : c < 10) (hv : v < 1000) (h : De N S T M) : ∃ M' S', f_L_areOrders (nI u) (nI s) (nI c) (nI v) (b2 e) M = some (1, M') ∧ De N S' [] M' := by
  have z : ¬ (1 : Int32) = 0 := by decide
  have e4 : ireM (nI v) (4 : Int32) = nI (v % 4) := by
    rw [show (4 : Int32) = nI 4 from rfl, rem_nI (by omega) (by omega) (by omega)]
  have e9 : (1 : Int32) + ireM (nI v) (9 : Int32) = nI (1 + v % 9) := by
    rw [show (9 : Int32) = nI 9 from rfl, rem_nI (by omega) (by omega) (by omega), show (1 : Int32) = nI 1 from rfl, nI_add]
  obtain ⟨was, hw⟩ := p_print hN (by omega)
  have hw : Pr N was := hw
  obtain ⟨M1, a1, h1⟩ := hw S T M h
  have hl1 := h1.2.2.1
  obtain ⟨M2, a2, h2⟩ := e_clearText h1
  obtain ⟨M3, a3, h3⟩ := p_types1 (x := 112) (a := v % 4) (by omega) (by omega) (by decide) h2
  have he : e.toNat < 1000 := by cases e <;> decide
  obtain ⟨M4, a4, h4⟩ := p_types4 (x := 113) (a := u) (b := s) (c := 1 + v % 9) (d := e.toNat) (by omega) (by omega) (by omega) (by omega) he (by show 6 + 18 ≤ 120; omega) h3
  obtain ⟨M5, a5, h5⟩ := p_types1 (x := 98) (a := c) (by omega) (by omega) (by show 24 + 6 ≤ 120; omega) h4
  rw [txt_eq] at h5
  obtain ⟨M6, hcar⟩ := p_carry (e := e) hN hb (by omega) hu hs (by omega) hc h5
  have hT : (txt (v % 4) u s (1 + v % 9) e.toNat c).length = 29 + 1 := rfl
  generalize htt : txt (v % 4) u s (1 + v % 9) e.toNat c = tt at *
  have key : ∃ M' S', B_L_areOrders_78 (nI u) (nI s) (nI c) (nI v) (b2 e) was 1 M5 = some (1, M') ∧ De N S' [] M' := by
    rcases hcar with ⟨k0, k1, k2⟩ | ⟨k0, k1, k2, k3⟩ | ⟨k0, k1, k2, k3⟩
    · obtain ⟨M7, b1, h7⟩ := hw _ _ _ k2
      obtain ⟨M8, c1, h8⟩ := ao_137 (u := u) (s := s) (c := c) (v := v) (e := e) (bb := was) (told := -1001) h7 hw
      obtain ⟨M9, S9, d1, h9⟩ := ao_152 (bb := was) hN hb hu hs hc hv hT h8 hw (Or.inl ⟨k0, rfl⟩)
      refine ⟨M9, S9, ?_, h9⟩
      unfold B_L_areOrders_78
      rw [k1, Option.bind_some]
      dsimp only
      rw [b1, Option.bind_some]
      dsimp only
      rw [if_neg z, if_neg (by decide), if_pos rfl]
      unfold B_L_areOrders_129
      rw [if_pos (lcv_0.mpr rfl)]
      exact c1.trans d1
    · obtain ⟨M7, b1, h7⟩ := hw _ _ _ k3
      obtain ⟨M8, c1, h8⟩ := ao_137 (u := u) (s := s) (c := c) (v := v) (e := e) (bb := was) (told := -1002) h7 hw
      obtain ⟨M9, S9, d1, h9⟩ := ao_152 (bb := was) hN hb hu hs hc hv hT h8 hw (Or.inr (Or.inl ⟨k0, k1, rfl⟩))
      refine ⟨M9, S9, ?_, h9⟩
      unfold B_L_areOrders_78
      rw [k2, Option.bind_some]
      dsimp only
      rw [b1, Option.bind_some]
      dsimp only
      rw [if_neg z, if_neg (by decide), if_neg (by decide), if_pos rfl]
      unfold B_L_areOrders_129
      rw [if_pos (lcv_0.mpr rfl)]
      exact c1.trans d1
    · obtain ⟨w1, w2, w3⟩ := WFa_pas hN (v % 4) (show cl (N 0) + v % 4 < 134217728 by omega)
      obtain ⟨x1, x2, x3, x4⟩ := cdReq_z w1 hu hs (by omega) k0
      have w4 := WFa_req (e := e) w1 x3 hu hs x1 (show 1 + v % 9 ≤ 1000 by omega) x2 x4
      have w5 : WFa (brkS (reqS (pasS (v % 4) N) u s (1 + v % 9) e).2 c) := WFa_srv (WFa_lose w4 hc)
      have hb5 : cl (brkS (reqS (pasS (v % 4) N) u s (1 + v % 9) e).2 c 0) < 134217728 := by
        rw [brk_0 w4 hc (by omega), req_0, w2]
        omega
      obtain ⟨bb, hw3⟩ := p_print w5 hb5
      have hw3 : Pr (brkS (reqS (pasS (v % 4) N) u s (1 + v % 9) e).2 c) bb := hw3
      have k3 : De (brkS (reqS (pasS (v % 4) N) u s (1 + v % 9) e).2 c) (N :: (S.take 3).take 3) tt M6 := k3
      obtain ⟨M7, b1, h7⟩ := hw3 _ _ _ k3
      have h7 : De (brkS (reqS (pasS (v % 4) N) u s (1 + v % 9) e).2 c) (N :: ((S.take 3).take 3).take 2) tt M7 := h7
      obtain ⟨M8, u1, h8⟩ := e_undo h7
      obtain ⟨M9, c1, h9⟩ := ao_137 (u := u) (s := s) (c := c) (v := v) (e := e) (bb := bb) (told := 3) h8 hw
      obtain ⟨Ma, Sa, d1, ha⟩ := ao_152 (bb := bb) hN hb hu hs hc hv hT h9 hw (Or.inr (Or.inr ⟨k0, k1, rfl, hw3⟩))
      refine ⟨Ma, Sa, ?_, ha⟩
      unfold B_L_areOrders_78
      rw [k2, Option.bind_some]
      dsimp only
      rw [b1, Option.bind_some]
      dsimp only
      rw [if_neg z, if_pos rfl, u1, Option.bind_some]
      dsimp only
      rw [if_neg (nI_p0 (Nat.lt_of_le_of_lt (tk_le 2 _) (by omega)))]
      exact c1.trans d1
  obtain ⟨M9, S9, d9, h9⟩ := key
  refine ⟨M9, S9, ?_, h9⟩
  have k53 : B_L_areOrders_53 (nI u) (nI s) (nI c) (nI v) (b2 e) was (b2 e) (nI (1 + v % 9)) (nI s) (nI u) 4 113 M3 = some (1, M9) := by
    unfold B_L_areOrders_53
    rw [show f_L_types 113 4 (nI u) (nI s) (nI (1 + v % 9)) (b2 e) M3 = _ from a4, Option.bind_some]
    dsimp only
    rw [if_neg z, show f_L_types 98 1 (nI c) 0 0 0 M4 = _ from a5, Option.bind_some]
    dsimp only
    rw [if_neg z]
    exact d9
  unfold f_L_areOrders
  rw [a1, Option.bind_some]
  dsimp only
  rw [a2, Option.bind_some]
  dsimp only
  rw [if_neg (nI_p0 (by omega)), e4, show f_L_types 112 1 (nI (v % 4)) 0 0 0 M2 = _ from a3, Option.bind_some]
  dsimp only
  rw [if_neg z, e9]
  cases e with
  | false =>
    rw [if_pos (show b2 false = 0 by decide)]
    exact k53
  | true =>
    rw [if_neg (by decide)]
    exact k53
end OA
