/-! ===== a request is granted: the reference ===== -/
/-- the first of those that p does not hold of -/
def fst (p : Nat → Bool) : Nat → Nat → Nat
  | 0, c => c
  | f + 1, c => if p c = true then fst p f (c + 1) else c
theorem fst_spec {p : Nat → Bool} : ∀ (f c : Nat), (∃ i, c ≤ i ∧ i < c + f ∧ p i = false) → fst p f c < c + f ∧ p (fst p f c) = false ∧ ∀ j, c ≤ j → j < fst p f c → p j = true
  | 0, c, ⟨i, h1, h2, _⟩ => by omega
  | f + 1, c, ⟨i, h1, h2, h3⟩ => by
    rw [fst]
    by_cases hp : p c = true
    · rw [if_pos hp]
      have hne : i ≠ c := fun e => by rw [e, hp] at h3; cases h3
      obtain ⟨a, b, d⟩ := fst_spec f (c + 1) ⟨i, by omega, by omega, h3⟩
      refine ⟨by omega, b, fun j h4 h5 => ?_⟩
      by_cases hj : j = c
      · subst hj; exact hp
      · exact d j (by omega) h5
    · rw [if_neg hp]
      exact ⟨by omega, Bool.eq_false_iff.mpr hp, fun j h4 h5 => by omega⟩
theorem cntN_free {p : Nat → Bool} : ∀ {n : Nat}, cntN p n < n → ∃ i, i < n ∧ p i = false
  | 0, h => absurd h (Nat.not_lt_zero _)
  | n + 1, h => by
    cases hp : p n with
    | false => exact ⟨n, by omega, hp⟩
    | true =>
      rw [cntN_s, hp] at h
      obtain ⟨i, h1, h2⟩ := cntN_free (p := p) (n := n) (by simp at h; omega)
      exact ⟨i, by omega, h2⟩
section GR
variable {N : Row} {u s t : Nat} {e : Bool}
def frN (N : Row) (u s : Nat) (e : Bool) (c : Nat) : Bool := ck N c && !Abs N u s e c
def itsN (N : Row) (u s : Nat) (e : Bool) : Nat := fst (frN N u s e) 10 0
theorem its_spec (h : Cnt N u s e < 10) : itsN N u s e < 10 ∧ frN N u s e (itsN N u s e) = false ∧ ∀ j, j < itsN N u s e → frN N u s e j = true := by
  obtain ⟨i, h1, h2⟩ := cntN_free (p := fun c => ck N c && !Abs N u s e c) h
  obtain ⟨a, b, c⟩ := fst_spec (p := frN N u s e) 10 0 ⟨i, by omega, by omega, h2⟩
  exact ⟨by unfold itsN; omega, b, fun j hj => c j (by omega) hj⟩
def tkR (N : Row) (u s : Nat) (e : Bool) : Nat → Nat → Int32
  | 0, kk => N (82 + kk / 2)
  | c + 1, kk => if ((Abs N u s e c && !sh N c) && cop N c (kk / 12)) = true then N (262 + 240 * c + kk) else tkR N u s e c kk
def clrS (N : Row) (u s : Nat) (e : Bool) : Nat → Row
  | 0 => N
  | c + 1 => if Abs N u s e c = true then closeS (clrS N u s e c) c else clrS N u s e c
theorem clrS_lo : ∀ i, eqR 0 202 (clrS N u s e i) N
  | 0 => eqR.rf
  | i + 1 => by
    rw [clrS]
    by_cases h : Abs N u s e i = true
    · rw [if_pos h]; exact (setC_lo _).tr (clrS_lo i)
    · rw [if_neg h]; exact clrS_lo i
theorem clrS_hi : ∀ i, i ≤ 10 → ∀ k, 262 ≤ k → clrS N u s e i k = N k
  | 0, _, _, _ => rfl
  | i + 1, hi, k, hk => by
    rw [clrS]
    by_cases h : Abs N u s e i = true
    · rw [if_pos h]
      show closeS _ i k = _
      unfold closeS
      rw [setC_o (by omega)]
      exact clrS_hi i (by omega) k hk
    · rw [if_neg h]; exact clrS_hi i (by omega) k hk
theorem clrS_o : ∀ i {c w : Nat}, 0 < w → w < 6 → clrS N u s e i (202 + 6 * c + w) = N (202 + 6 * c + w)
  | 0, _, _, _, _ => rfl
  | i + 1, c, w, h0, h1 => by
    rw [clrS]
    by_cases h : Abs N u s e i = true
    · rw [if_pos h, closeS_o h0 h1]; exact clrS_o i h0 h1
    · rw [if_neg h]; exact clrS_o i h0 h1
theorem clrS_ck : ∀ i {c : Nat}, ck (clrS N u s e i) c = (ck N c && !(decide (c < i) && Abs N u s e c))
  | 0, c => by simp [clrS]
  | i + 1, c => by
    rw [clrS]
    by_cases h : Abs N u s e i = true
    · rw [if_pos h, closeS_ck, clrS_ck i]
      by_cases hc : c = i
      · subst hc; simp [h]
      · have e1 : decide (c < i + 1) = decide (c < i) := by
          by_cases h2 : c < i
          · rw [decide_eq_true h2, decide_eq_true (by omega)]
          · rw [decide_eq_false h2, decide_eq_false (by omega)]
        rw [e1, decide_eq_false hc, Bool.not_false, Bool.and_true]
    · rw [if_neg h, clrS_ck i]
      by_cases hc : c = i
      · subst hc; simp [h]
      · have e1 : decide (c < i + 1) = decide (c < i) := by
          by_cases h2 : c < i
          · rw [decide_eq_true h2, decide_eq_true (by omega)]
          · rw [decide_eq_false h2, decide_eq_false (by omega)]
        rw [e1]
theorem clrS_sec (i : Nat) {c : Nat} : sec (clrS N u s e i) c = sec N c := by unfold sec; rw [clrS_o i (by omega) (by omega)]
theorem clrS_usr (i : Nat) {c : Nat} : usr (clrS N u s e i) c = usr N c := by unfold usr; rw [clrS_o i (by omega) (by omega)]
theorem clrS_hd (i : Nat) {c : Nat} : hd (clrS N u s e i) c = hd N c := by unfold hd; rw [clrS_o i (by omega) (by omega)]
theorem clrS_sh (i : Nat) {c : Nat} : sh (clrS N u s e i) c = sh N c := by unfold sh; rw [clrS_o i (by omega) (by omega)]
theorem WFc_clr (hN : WFc N) : ∀ i, i ≤ 10 → WFc (clrS N u s e i)
  | 0, _ => hN
  | i + 1, h => by
    rw [clrS]
    by_cases h2 : Abs N u s e i = true
    · rw [if_pos h2]; exact WFc_close (WFc_clr hN i (by omega)) (by omega)
    · rw [if_neg h2]; exact WFc_clr hN i (by omega)
theorem Abs_sec {c : Nat} (h : Abs N u s e c = true) : hel N c = true ∧ usr N c = u ∧ sec N c ≠ s ∧ An N (sec N c) s = true ∧ e = false := by
  unfold Abs at h
  simp only [Bool.and_eq_true, Bool.not_eq_true', decide_eq_true_eq, decide_eq_false_iff_not] at h
  exact ⟨h.2.1, h.2.2.1, h.2.2.2.1, h.2.2.2.2, h.1⟩
theorem clrS_Abs (hN : WFt N) (hc : WFc N) {i c : Nat} (hi : i ≤ c) (hcc : c < 10) : Abs (clrS N u s e i) u s e c = Abs N u s e c := by
  have hk : ck (clrS N u s e i) c = ck N c := by rw [clrS_ck, decide_eq_false (by omega)]; simp
  unfold Abs hel
  rw [hk, clrS_hd, clrS_usr, clrS_sec]
  cases h1 : ck N c with
  | false => simp only [Bool.false_and, Bool.and_false]
  | true => rw [An_cg ((clrS_lo i).sub (by omega) (by omega)) hN (sec_lt hc hcc h1) (sec_us hc hcc h1)]
theorem clrS_cop (hN : WFt N) {i c s' : Nat} (hs : s' < 20) : cop (clrS N u s e i) c s' = cop N c s' := by
  have h0 : eqR 0 62 (clrS N u s e i) N := (clrS_lo i).sub (by omega) (by omega)
  unfold cop
  rw [us_cg h0 hs, clrS_sec]
  cases h1 : us N s' with
  | false => simp only [Bool.false_and]
  | true => rw [An_cg h0 hN hs h1]
/-- what is copied from one check-out -/
def tkC (R : Row) (T : Nat → Int32) (c n : Nat) : Nat → Int32 := fun kk => if kk < n ∧ cop R c (kk / 12) = true then R (262 + 240 * c + kk) else T kk
theorem m_takesOver {M : Mem} (h : WFt (M.1 7 1)) {c : Nat} (hcc : c < 10) (hse : M.1 7 1 (202 + 6 * c + 2) = nI (sec (M.1 7 1) c)) (hsl : sec (M.1 7 1) c < 20) : f_X9_takesOver (nI c) M = some (wrs M 7 5 (tkC (M.1 7 1) (M.1 7 5) c 240)) := by
  have w1 : ∀ f, (wrs M 7 5 f).1 7 1 = M.1 7 1 := fun f => wrs_other _ _ _ _ (by decide)
  have e0 : tkC (M.1 7 1) (M.1 7 5) c 0 = M.1 7 5 := by funext kk; unfold tkC; rw [if_neg (by omega)]
  unfold f_X9_takesOver
  refine loop0 (fun n (σ : Int32 × Mem) => L_X9_takesOver_2 (nI c) n σ.1 σ.2) (fun s => (nI s, wrs M 7 5 (tkC (M.1 7 1) (M.1 7 5) c (12 * s)))) 20 (nI 0, M) (by rw [Nat.mul_zero, e0, wrs_self]) (fun n s hs => ?_) (fun n => ?_) FU (by decide)
  · show L_X9_takesOver_2 (nI c) (n + 1) _ _ = L_X9_takesOver_2 (nI c) n _ _
    dsimp only
    rw [L_X9_takesOver_2, if_neg (show ¬ (20 : Int32) ≤ nI s from fun e => by have e2 : nI 20 ≤ nI s := e; rw [nI_leI (by omega) (by omega)] at e2; omega)]
    cases hcp : cop (M.1 7 1) c s with
    | false =>
      obtain ⟨F, hF⟩ : ∃ F, FU = F + 1 := ⟨999999, rfl⟩
      have e1 : tkC (M.1 7 1) (M.1 7 5) c (12 * (s + 1)) = tkC (M.1 7 1) (M.1 7 5) c (12 * s) := by
        funext kk
        unfold tkC
        by_cases h1 : kk < 12 * s
        · by_cases h2 : cop (M.1 7 1) c (kk / 12) = true
          · rw [if_pos ⟨by omega, h2⟩, if_pos ⟨h1, h2⟩]
          · rw [if_neg (fun z => h2 z.2), if_neg (fun z => h2 z.2)]
        · by_cases h2 : kk < 12 * (s + 1)
          · rw [if_neg (fun z => by rw [show kk / 12 = s by omega, hcp] at z; cases z.2), if_neg (fun z => h1 z.1)]
          · rw [if_neg (fun z => h2 z.1), if_neg (fun z => h1 z.1)]
      rw [e1, hF, L_X9_takesOver_10, if_neg (show ¬ (12 : Int32) ≤ 0 by decide), bnd (m_isSection _ _), w1, isS_nI hs]
      unfold B_X9_takesOver_68
      cases hu : us (M.1 7 1) s with
      | false =>
        rw [if_pos (show b2 false = 0 from rfl)]
        simp (disch := omega) only [↓ite_b2r, ↓ite_nb2r, ↓lit_m1, ↓lit_m2, lit_0, lit_1, lit_2, lit_3, lit_4, lit_5, lit_6, lit_7, lit_8, lit_9, lit_10, lit_11, lit_12, lit_13, lit_14, lit_15, lit_16, lit_17, lit_18, lit_19, lit_20, lit_21, lit_22, lit_23, lit_24, lit_25, lit_26, lit_27, lit_28, lit_29, lit_30, lit_31, lit_32, lit_33, lit_34, lit_35, lit_36, lit_40, lit_41, lit_42, lit_44, lit_48, lit_57, lit_59, lit_62, lit_63, lit_64, lit_82, lit_98, lit_99, lit_100, lit_101, lit_102, lit_103, lit_104, lit_105, lit_106, lit_107, lit_108, lit_109, lit_110, lit_111, lit_112, lit_113, lit_119, lit_120, lit_127, lit_128, lit_149, lit_150, lit_202, lit_240, lit_262, lit_894, lit_900, lit_999, lit_1000, lit_2000, lit_2662, lit_2663, lit_2695, lit_2701, lit_2702, lit_3602, lit_10806, nI_add, pk_mul, cl_nI, inb_nI, nI_leI, nI_ltI, nI_eq, nI_eq_m1, m1_eq_nI, nI_eq_m2, div_nI, rem_nI, Option.bind_some, b2_0, b2_1, isb_b2, if_true_, if_false_, ↓reduceIte, reduceCtorEq, not_true_eq_false, not_false_eq_true, bt_hasBit, ult, Nat.add_zero, false_and, true_and, and_true, and_false, Nat.reduceLeDiff, Nat.reduceEqDiff, Nat.reduceLT, Bool.toNat_true, Bool.toNat_false, decide_true, decide_false, Bool.not_true, Bool.not_false, Bool.false_and, Bool.true_and, Bool.and_true, Bool.and_false, Bool.or_false, Bool.true_or, Bool.or_true, Bool.false_or]
      | true =>
        have ha : An (M.1 7 1) s (sec (M.1 7 1) c) = false := by unfold cop at hcp; rw [hu, Bool.true_and] at hcp; exact hcp
        have mi := m_isIn (M := wrs M 7 5 (tkC (M.1 7 1) (M.1 7 5) c (12 * s))) (s := s) (t := sec (M.1 7 1) c) (by rw [w1]; exact h) hs (by rw [w1]; exact hu) hsl
        rw [if_neg (show ¬ b2 true = 0 by decide), show f_X9_get (nI c) 2 _ = _ from m_get _ hcc (by decide), w1, hse, Option.bind_some, mi, w1, ha, Option.bind_some, if_pos (show b2 false = 0 from rfl)]
        simp (disch := omega) only [↓ite_b2r, ↓ite_nb2r, ↓lit_m1, ↓lit_m2, lit_0, lit_1, lit_2, lit_3, lit_4, lit_5, lit_6, lit_7, lit_8, lit_9, lit_10, lit_11, lit_12, lit_13, lit_14, lit_15, lit_16, lit_17, lit_18, lit_19, lit_20, lit_21, lit_22, lit_23, lit_24, lit_25, lit_26, lit_27, lit_28, lit_29, lit_30, lit_31, lit_32, lit_33, lit_34, lit_35, lit_36, lit_40, lit_41, lit_42, lit_44, lit_48, lit_57, lit_59, lit_62, lit_63, lit_64, lit_82, lit_98, lit_99, lit_100, lit_101, lit_102, lit_103, lit_104, lit_105, lit_106, lit_107, lit_108, lit_109, lit_110, lit_111, lit_112, lit_113, lit_119, lit_120, lit_127, lit_128, lit_149, lit_150, lit_202, lit_240, lit_262, lit_894, lit_900, lit_999, lit_1000, lit_2000, lit_2662, lit_2663, lit_2695, lit_2701, lit_2702, lit_3602, lit_10806, nI_add, pk_mul, cl_nI, inb_nI, nI_leI, nI_ltI, nI_eq, nI_eq_m1, m1_eq_nI, nI_eq_m2, div_nI, rem_nI, Option.bind_some, b2_0, b2_1, isb_b2, if_true_, if_false_, ↓reduceIte, reduceCtorEq, not_true_eq_false, not_false_eq_true, bt_hasBit, ult, Nat.add_zero, false_and, true_and, and_true, and_false, Nat.reduceLeDiff, Nat.reduceEqDiff, Nat.reduceLT, Bool.toNat_true, Bool.toNat_false, decide_true, decide_false, Bool.not_true, Bool.not_false, Bool.false_and, Bool.true_and, Bool.and_true, Bool.and_false, Bool.or_false, Bool.true_or, Bool.or_true, Bool.false_or]
    | true =>
      have hu := cop_us hcp
      have ha : An (M.1 7 1) s (sec (M.1 7 1) c) = true := by unfold cop at hcp; rw [hu, Bool.true_and] at hcp; exact hcp
      refine loop (fun m (σ : Int32 × Mem) => L_X9_takesOver_10 (L_X9_takesOver_2 (nI c) n) (nI c) (nI s) m σ.1 σ.2) (fun l => (nI l, wrs M 7 5 (tkC (M.1 7 1) (M.1 7 5) c (12 * s + l)))) 12 (fun m l hl => ?_) (fun m => ?_) FU (by decide)
      · show L_X9_takesOver_10 _ (nI c) (nI s) (m + 1) _ _ = L_X9_takesOver_10 _ (nI c) (nI s) m _ _
        have mi := m_isIn (M := wrs M 7 5 (tkC (M.1 7 1) (M.1 7 5) c (12 * s + l))) (s := s) (t := sec (M.1 7 1) c) (by rw [w1]; exact h) hs (by rw [w1]; exact hu) hsl
        have eu : upd (tkC (M.1 7 1) (M.1 7 5) c (12 * s + l)) (12 * s + l) (M.1 7 1 (262 + 240 * c + 12 * s + l)) = tkC (M.1 7 1) (M.1 7 5) c (12 * s + (l + 1)) := by
          funext kk
          unfold tkC
          by_cases hk : kk = 12 * s + l
          · subst hk
            rw [upd_same, if_pos ⟨by omega, by rw [show (12 * s + l) / 12 = s by omega]; exact hcp⟩, show 262 + 240 * c + (12 * s + l) = 262 + 240 * c + 12 * s + l by omega]
          · rw [upd_other hk]
            by_cases h1 : kk < 12 * s + l
            · by_cases h2 : cop (M.1 7 1) c (kk / 12) = true
              · rw [if_pos ⟨h1, h2⟩, if_pos ⟨by omega, h2⟩]
              · rw [if_neg (fun z => h2 z.2), if_neg (fun z => h2 z.2)]
            · rw [if_neg (fun z => h1 z.1), if_neg (fun z => by omega)]
        rw [L_X9_takesOver_10, if_neg (show ¬ (12 : Int32) ≤ nI l from fun e => by have e2 : nI 12 ≤ nI l := e; rw [nI_leI (by omega) (by omega)] at e2; omega), bnd (m_isSection _ _), w1, isS_nI hs, hu, if_neg (show ¬ b2 true = 0 by decide), show f_X9_get (nI c) 2 _ = _ from m_get _ hcc (by decide), w1, hse, Option.bind_some, mi, w1, ha, Option.bind_some, if_neg (show ¬ b2 true = 0 by decide)]
        unfold f_X9_copy
        simp (disch := omega) only [↓ite_b2r, ↓ite_nb2r, ↓lit_m1, ↓lit_m2, lit_0, lit_1, lit_2, lit_3, lit_4, lit_5, lit_6, lit_7, lit_8, lit_9, lit_10, lit_11, lit_12, lit_13, lit_14, lit_15, lit_16, lit_17, lit_18, lit_19, lit_20, lit_21, lit_22, lit_23, lit_24, lit_25, lit_26, lit_27, lit_28, lit_29, lit_30, lit_31, lit_32, lit_33, lit_34, lit_35, lit_36, lit_40, lit_41, lit_42, lit_44, lit_48, lit_57, lit_59, lit_62, lit_63, lit_64, lit_82, lit_98, lit_99, lit_100, lit_101, lit_102, lit_103, lit_104, lit_105, lit_106, lit_107, lit_108, lit_109, lit_110, lit_111, lit_112, lit_113, lit_119, lit_120, lit_127, lit_128, lit_149, lit_150, lit_202, lit_240, lit_262, lit_894, lit_900, lit_999, lit_1000, lit_2000, lit_2662, lit_2663, lit_2695, lit_2701, lit_2702, lit_3602, lit_10806, nI_add, pk_mul, cl_nI, inb_nI, nI_leI, nI_ltI, nI_eq, nI_eq_m1, m1_eq_nI, nI_eq_m2, div_nI, rem_nI, Option.bind_some, b2_0, b2_1, isb_b2, if_true_, if_false_, ↓reduceIte, reduceCtorEq, not_true_eq_false, not_false_eq_true, bt_hasBit, ult, Nat.add_zero, false_and, true_and, and_true, and_false, Nat.reduceLeDiff, Nat.reduceEqDiff, Nat.reduceLT, Bool.toNat_true, Bool.toNat_false, decide_true, decide_false, Bool.not_true, Bool.not_false, Bool.false_and, Bool.true_and, Bool.and_true, Bool.and_false, Bool.or_false, Bool.true_or, Bool.or_true, Bool.false_or, wr_wrs, w1, Nat.mul_zero, eu]
      · show L_X9_takesOver_10 _ (nI c) (nI s) (m + 1) _ _ = _
        rw [L_X9_takesOver_10]
        unfold B_X9_takesOver_68
        simp (disch := omega) only [↓ite_b2r, ↓ite_nb2r, ↓lit_m1, ↓lit_m2, lit_0, lit_1, lit_2, lit_3, lit_4, lit_5, lit_6, lit_7, lit_8, lit_9, lit_10, lit_11, lit_12, lit_13, lit_14, lit_15, lit_16, lit_17, lit_18, lit_19, lit_20, lit_21, lit_22, lit_23, lit_24, lit_25, lit_26, lit_27, lit_28, lit_29, lit_30, lit_31, lit_32, lit_33, lit_34, lit_35, lit_36, lit_40, lit_41, lit_42, lit_44, lit_48, lit_57, lit_59, lit_62, lit_63, lit_64, lit_82, lit_98, lit_99, lit_100, lit_101, lit_102, lit_103, lit_104, lit_105, lit_106, lit_107, lit_108, lit_109, lit_110, lit_111, lit_112, lit_113, lit_119, lit_120, lit_127, lit_128, lit_149, lit_150, lit_202, lit_240, lit_262, lit_894, lit_900, lit_999, lit_1000, lit_2000, lit_2662, lit_2663, lit_2695, lit_2701, lit_2702, lit_3602, lit_10806, nI_add, pk_mul, cl_nI, inb_nI, nI_leI, nI_ltI, nI_eq, nI_eq_m1, m1_eq_nI, nI_eq_m2, div_nI, rem_nI, Option.bind_some, b2_0, b2_1, isb_b2, if_true_, if_false_, ↓reduceIte, reduceCtorEq, not_true_eq_false, not_false_eq_true, bt_hasBit, ult, Nat.add_zero, false_and, true_and, and_true, and_false, Nat.reduceLeDiff, Nat.reduceEqDiff, Nat.reduceLT, Bool.toNat_true, Bool.toNat_false, decide_true, decide_false, Bool.not_true, Bool.not_false, Bool.false_and, Bool.true_and, Bool.and_true, Bool.and_false, Bool.or_false, Bool.true_or, Bool.or_true, Bool.false_or, Nat.le_refl]
        rw [show 12 * (s + 1) = 12 * s + 12 by omega]
  · show L_X9_takesOver_2 (nI c) (n + 1) _ _ = _
    rw [L_X9_takesOver_2]
    simp (disch := omega) only [↓ite_b2r, ↓ite_nb2r, ↓lit_m1, ↓lit_m2, lit_0, lit_1, lit_2, lit_3, lit_4, lit_5, lit_6, lit_7, lit_8, lit_9, lit_10, lit_11, lit_12, lit_13, lit_14, lit_15, lit_16, lit_17, lit_18, lit_19, lit_20, lit_21, lit_22, lit_23, lit_24, lit_25, lit_26, lit_27, lit_28, lit_29, lit_30, lit_31, lit_32, lit_33, lit_34, lit_35, lit_36, lit_40, lit_41, lit_42, lit_44, lit_48, lit_57, lit_59, lit_62, lit_63, lit_64, lit_82, lit_98, lit_99, lit_100, lit_101, lit_102, lit_103, lit_104, lit_105, lit_106, lit_107, lit_108, lit_109, lit_110, lit_111, lit_112, lit_113, lit_119, lit_120, lit_127, lit_128, lit_149, lit_150, lit_202, lit_240, lit_262, lit_894, lit_900, lit_999, lit_1000, lit_2000, lit_2662, lit_2663, lit_2695, lit_2701, lit_2702, lit_3602, lit_10806, nI_add, pk_mul, cl_nI, inb_nI, nI_leI, nI_ltI, nI_eq, nI_eq_m1, m1_eq_nI, nI_eq_m2, div_nI, rem_nI, Option.bind_some, b2_0, b2_1, isb_b2, if_true_, if_false_, ↓reduceIte, reduceCtorEq, not_true_eq_false, not_false_eq_true, bt_hasBit, ult, Nat.add_zero, false_and, true_and, and_true, and_false, Nat.reduceLeDiff, Nat.reduceEqDiff, Nat.reduceLT, Bool.toNat_true, Bool.toNat_false, decide_true, decide_false, Bool.not_true, Bool.not_false, Bool.false_and, Bool.true_and, Bool.and_true, Bool.and_false, Bool.or_false, Bool.true_or, Bool.or_true, Bool.false_or, Nat.le_refl]
/-- the row with a copy laid into it -/
def cpS (Q : Row) (n : Nat) (T : Nat → Int32) (m : Nat) : Row := fun k => if 262 + 240 * n ≤ k ∧ k < 262 + 240 * n + m then T (k - (262 + 240 * n)) else Q k
def opS (R : Row) (n u s t : Nat) (e : Bool) : Row := upd (upd (upd (upd (upd (upd R (202 + 6 * n) (nI 1)) (202 + 6 * n + 1) (nI u)) (202 + 6 * n + 2) (nI s)) (202 + 6 * n + 3) (R 0 + nI t)) (202 + 6 * n + 4) (nI 1)) (202 + 6 * n + 5) (b2 e)
def grantS (N : Row) (u s t : Nat) (e : Bool) : Row := cpS (opS (clrS N u s e 10) (itsN N u s e) u s t e) (itsN N u s e) (tkR N u s e 10) 240
theorem m_grants {M : Mem} (h : WFt (M.1 7 1)) (hc : WFc (M.1 7 1)) (hu : u < 6) (hs : s < 20) (hcnt : Cnt (M.1 7 1) u s e < 10) : ∃ M', f_X9_grants (nI u) (nI s) (nI t) (b2 e) M = some (nI (itsN (M.1 7 1) u s e), M') ∧ M'.1 7 1 = grantS (M.1 7 1) u s t e ∧ FrN M M' := by
  obtain ⟨n1, n2, n3⟩ := its_spec hcnt
  unfold f_X9_grants
  -- the lines
  refine loopI (fun n (σ : Int32 × Mem) => L_X9_grants_3 (nI u) (nI s) (nI t) (b2 e) n σ.1 σ.2) (fun i σ => ∃ M', σ = (nI i, M') ∧ M'.1 7 1 = M.1 7 1 ∧ (∀ kk, kk < i → M'.1 7 5 kk = M.1 7 1 (82 + kk / 2)) ∧ FrN M M') (fun o => ∃ M', o = some (nI (itsN (M.1 7 1) u s e), M') ∧ M'.1 7 1 = grantS (M.1 7 1) u s t e ∧ FrN M M') 240 (fun n i σ hi hσ => ?_) (fun n σ hσ => ?_) FU (by decide) (nI 0, M) ⟨M, rfl, rfl, fun kk hk => absurd hk (Nat.not_lt_zero _), FrN.rf⟩
  · obtain ⟨M', rfl, a1, a2, a3⟩ := hσ
    refine Or.inr ⟨(nI (i + 1), wr M' 7 5 i (M'.1 7 1 (82 + i / 2))), ?_, _, rfl, ?_, fun kk hk => ?_, a3.tr (FrN_wr _ (by omega) _ _)⟩
    · show L_X9_grants_3 _ _ _ _ (n + 1) _ _ = L_X9_grants_3 _ _ _ _ n _ _
      rw [L_X9_grants_3]
      simp (disch := omega) only [↓ite_b2r, ↓ite_nb2r, ↓lit_m1, ↓lit_m2, lit_0, lit_1, lit_2, lit_3, lit_4, lit_5, lit_6, lit_7, lit_8, lit_9, lit_10, lit_11, lit_12, lit_13, lit_14, lit_15, lit_16, lit_17, lit_18, lit_19, lit_20, lit_21, lit_22, lit_23, lit_24, lit_25, lit_26, lit_27, lit_28, lit_29, lit_30, lit_31, lit_32, lit_33, lit_34, lit_35, lit_36, lit_40, lit_41, lit_42, lit_44, lit_48, lit_57, lit_59, lit_62, lit_63, lit_64, lit_82, lit_98, lit_99, lit_100, lit_101, lit_102, lit_103, lit_104, lit_105, lit_106, lit_107, lit_108, lit_109, lit_110, lit_111, lit_112, lit_113, lit_119, lit_120, lit_127, lit_128, lit_149, lit_150, lit_202, lit_240, lit_262, lit_894, lit_900, lit_999, lit_1000, lit_2000, lit_2662, lit_2663, lit_2695, lit_2701, lit_2702, lit_3602, lit_10806, nI_add, pk_mul, cl_nI, inb_nI, nI_leI, nI_ltI, nI_eq, nI_eq_m1, m1_eq_nI, nI_eq_m2, div_nI, rem_nI, Option.bind_some, b2_0, b2_1, isb_b2, if_true_, if_false_, ↓reduceIte, reduceCtorEq, not_true_eq_false, not_false_eq_true, bt_hasBit, ult, Nat.add_zero, false_and, true_and, and_true, and_false, Nat.reduceLeDiff, Nat.reduceEqDiff, Nat.reduceLT, Bool.toNat_true, Bool.toNat_false, decide_true, decide_false, Bool.not_true, Bool.not_false, Bool.false_and, Bool.true_and, Bool.and_true, Bool.and_false, Bool.or_false, Bool.true_or, Bool.or_true, Bool.false_or, Nat.not_le.mpr hi]
    · rw [wr_other _ _ _ _ _ (by omega)]; exact a1
    · rw [wr_same]
      by_cases hki : kk = i
      · subst hki; rw [upd_same, a1]
      · rw [upd_other hki]; exact a2 kk (by omega)
  · obtain ⟨M1, rfl, a1, a2, a3⟩ := hσ
    show ∃ M', L_X9_grants_3 _ _ _ _ (n + 1) _ _ = _ ∧ _
    rw [L_X9_grants_3]
    simp (disch := omega) only [↓ite_b2r, ↓ite_nb2r, ↓lit_m1, ↓lit_m2, lit_0, lit_1, lit_2, lit_3, lit_4, lit_5, lit_6, lit_7, lit_8, lit_9, lit_10, lit_11, lit_12, lit_13, lit_14, lit_15, lit_16, lit_17, lit_18, lit_19, lit_20, lit_21, lit_22, lit_23, lit_24, lit_25, lit_26, lit_27, lit_28, lit_29, lit_30, lit_31, lit_32, lit_33, lit_34, lit_35, lit_36, lit_40, lit_41, lit_42, lit_44, lit_48, lit_57, lit_59, lit_62, lit_63, lit_64, lit_82, lit_98, lit_99, lit_100, lit_101, lit_102, lit_103, lit_104, lit_105, lit_106, lit_107, lit_108, lit_109, lit_110, lit_111, lit_112, lit_113, lit_119, lit_120, lit_127, lit_128, lit_149, lit_150, lit_202, lit_240, lit_262, lit_894, lit_900, lit_999, lit_1000, lit_2000, lit_2662, lit_2663, lit_2695, lit_2701, lit_2702, lit_3602, lit_10806, nI_add, pk_mul, cl_nI, inb_nI, nI_leI, nI_ltI, nI_eq, nI_eq_m1, m1_eq_nI, nI_eq_m2, div_nI, rem_nI, Option.bind_some, b2_0, b2_1, isb_b2, if_true_, if_false_, ↓reduceIte, reduceCtorEq, not_true_eq_false, not_false_eq_true, bt_hasBit, ult, Nat.add_zero, false_and, true_and, and_true, and_false, Nat.reduceLeDiff, Nat.reduceEqDiff, Nat.reduceLT, Bool.toNat_true, Bool.toNat_false, decide_true, decide_false, Bool.not_true, Bool.not_false, Bool.false_and, Bool.true_and, Bool.and_true, Bool.and_false, Bool.or_false, Bool.true_or, Bool.or_true, Bool.false_or, Nat.le_refl]
    clear n
    -- the absorbed ones
    refine loopI (fun n (σ : Int32 × Mem) => L_X9_grants_39 (nI u) (nI s) (nI t) (b2 e) n σ.1 σ.2) (fun i σ => ∃ M', σ = (nI i, M') ∧ M'.1 7 1 = clrS (M.1 7 1) u s e i ∧ (∀ kk, kk < 240 → M'.1 7 5 kk = tkR (M.1 7 1) u s e i kk) ∧ FrN M M') (fun o => ∃ M', o = some (nI (itsN (M.1 7 1) u s e), M') ∧ M'.1 7 1 = grantS (M.1 7 1) u s t e ∧ FrN M M') 10 (fun n i σ hi hσ => ?_) (fun n σ hσ => ?_) FU (by decide) (nI 0, M1) ⟨M1, rfl, a1, a2, a3⟩
    · obtain ⟨M2, rfl, b1, b2', b3⟩ := hσ
      refine Or.inr ?_
      show ∃ s', L_X9_grants_39 _ _ _ _ (n + 1) _ _ = L_X9_grants_39 _ _ _ _ n _ _ ∧ _
      have hw : WFt (M2.1 7 1) := by rw [b1]; exact WFt_cg ((clrS_lo i).sub (by omega) (by omega)) h
      have hwc : WFc (M2.1 7 1) := by rw [b1]; exact WFc_clr hc i (by omega)
      have ha := m_absorbs (M := M2) hw hwc (u := u) (s := s) (c := i) e hu hs hi
      rw [b1, clrS_Abs h hc (Nat.le_refl i) hi] at ha
      rw [L_X9_grants_39]
      unfold B_X9_grants_75 B_X9_grants_87
      cases hA : Abs (M.1 7 1) u s e i with
      | false =>
        refine ⟨(nI (i + 1), M2), ?_, M2, rfl, ?_, fun kk hk => ?_, b3⟩
        · simp (disch := omega) only [↓ite_b2r, ↓ite_nb2r, ↓lit_m1, ↓lit_m2, lit_0, lit_1, lit_2, lit_3, lit_4, lit_5, lit_6, lit_7, lit_8, lit_9, lit_10, lit_11, lit_12, lit_13, lit_14, lit_15, lit_16, lit_17, lit_18, lit_19, lit_20, lit_21, lit_22, lit_23, lit_24, lit_25, lit_26, lit_27, lit_28, lit_29, lit_30, lit_31, lit_32, lit_33, lit_34, lit_35, lit_36, lit_40, lit_41, lit_42, lit_44, lit_48, lit_57, lit_59, lit_62, lit_63, lit_64, lit_82, lit_98, lit_99, lit_100, lit_101, lit_102, lit_103, lit_104, lit_105, lit_106, lit_107, lit_108, lit_109, lit_110, lit_111, lit_112, lit_113, lit_119, lit_120, lit_127, lit_128, lit_149, lit_150, lit_202, lit_240, lit_262, lit_894, lit_900, lit_999, lit_1000, lit_2000, lit_2662, lit_2663, lit_2695, lit_2701, lit_2702, lit_3602, lit_10806, nI_add, pk_mul, cl_nI, inb_nI, nI_leI, nI_ltI, nI_eq, nI_eq_m1, m1_eq_nI, nI_eq_m2, div_nI, rem_nI, Option.bind_some, b2_0, b2_1, isb_b2, if_true_, if_false_, ↓reduceIte, reduceCtorEq, not_true_eq_false, not_false_eq_true, bt_hasBit, ult, Nat.add_zero, false_and, true_and, and_true, and_false, Nat.reduceLeDiff, Nat.reduceEqDiff, Nat.reduceLT, Bool.toNat_true, Bool.toNat_false, decide_true, decide_false, Bool.not_true, Bool.not_false, Bool.false_and, Bool.true_and, Bool.and_true, Bool.and_false, Bool.or_false, Bool.true_or, Bool.or_true, Bool.false_or, Nat.not_le.mpr hi, ha, hA]
        · rw [b1, clrS, hA]; rfl
        · rw [b2' kk hk, tkR, hA]; rfl
      | true =>
        have hk : ck (M.1 7 1) i = true := hel_ck (Abs_sec hA).1
        have hsec : sec (M2.1 7 1) i = sec (M.1 7 1) i := by rw [b1]; exact clrS_sec i
        have hse : M2.1 7 1 (202 + 6 * i + 2) = nI (sec (M2.1 7 1) i) := by rw [hsec, b1, clrS_o i (by omega) (by omega)]; exact sec_eq hc hi hk
        have hsl : sec (M2.1 7 1) i < 20 := by rw [hsec]; exact sec_lt hc hi hk
        have hsh : M2.1 7 1 (202 + 6 * i + 5) = nI (sh (M.1 7 1) i).toNat := by rw [b1, clrS_o i (by omega) (by omega)]; exact sh_eq hc hi
        unfold f_X9_check
        cases hS : sh (M.1 7 1) i with
        | true =>
          refine ⟨(nI (i + 1), wr M2 7 1 (202 + 6 * i) (nI 0)), ?_, _, rfl, ?_, fun kk hk => ?_, b3.tr (FrN_wr _ (by omega) _ _)⟩
          · simp (disch := omega) only [↓ite_b2r, ↓ite_nb2r, ↓lit_m1, ↓lit_m2, lit_0, lit_1, lit_2, lit_3, lit_4, lit_5, lit_6, lit_7, lit_8, lit_9, lit_10, lit_11, lit_12, lit_13, lit_14, lit_15, lit_16, lit_17, lit_18, lit_19, lit_20, lit_21, lit_22, lit_23, lit_24, lit_25, lit_26, lit_27, lit_28, lit_29, lit_30, lit_31, lit_32, lit_33, lit_34, lit_35, lit_36, lit_40, lit_41, lit_42, lit_44, lit_48, lit_57, lit_59, lit_62, lit_63, lit_64, lit_82, lit_98, lit_99, lit_100, lit_101, lit_102, lit_103, lit_104, lit_105, lit_106, lit_107, lit_108, lit_109, lit_110, lit_111, lit_112, lit_113, lit_119, lit_120, lit_127, lit_128, lit_149, lit_150, lit_202, lit_240, lit_262, lit_894, lit_900, lit_999, lit_1000, lit_2000, lit_2662, lit_2663, lit_2695, lit_2701, lit_2702, lit_3602, lit_10806, nI_add, pk_mul, cl_nI, inb_nI, nI_leI, nI_ltI, nI_eq, nI_eq_m1, m1_eq_nI, nI_eq_m2, div_nI, rem_nI, Option.bind_some, b2_0, b2_1, isb_b2, if_true_, if_false_, ↓reduceIte, reduceCtorEq, not_true_eq_false, not_false_eq_true, bt_hasBit, ult, Nat.add_zero, false_and, true_and, and_true, and_false, Nat.reduceLeDiff, Nat.reduceEqDiff, Nat.reduceLT, Bool.toNat_true, Bool.toNat_false, decide_true, decide_false, Bool.not_true, Bool.not_false, Bool.false_and, Bool.true_and, Bool.and_true, Bool.and_false, Bool.or_false, Bool.true_or, Bool.or_true, Bool.false_or, Nat.not_le.mpr hi, ha, hA, m_get, hsh, hS]
          · rw [wr_same, b1, clrS, hA, if_pos rfl]; rfl
          · rw [wr_other _ _ _ _ _ (by omega), b2' kk hk, tkR, hA, hS]; rfl
        | false =>
          have ht := m_takesOver (M := M2) hw hi hse hsl
          refine ⟨(nI (i + 1), wr (wrs M2 7 5 (tkC (M2.1 7 1) (M2.1 7 5) i 240)) 7 1 (202 + 6 * i) (nI 0)), ?_, _, rfl, ?_, fun kk hk => ?_, (b3.tr (FrN_wrs _ (by omega) _)).tr (FrN_wr _ (by omega) _ _)⟩
          · simp (disch := omega) only [↓ite_b2r, ↓ite_nb2r, ↓lit_m1, ↓lit_m2, lit_0, lit_1, lit_2, lit_3, lit_4, lit_5, lit_6, lit_7, lit_8, lit_9, lit_10, lit_11, lit_12, lit_13, lit_14, lit_15, lit_16, lit_17, lit_18, lit_19, lit_20, lit_21, lit_22, lit_23, lit_24, lit_25, lit_26, lit_27, lit_28, lit_29, lit_30, lit_31, lit_32, lit_33, lit_34, lit_35, lit_36, lit_40, lit_41, lit_42, lit_44, lit_48, lit_57, lit_59, lit_62, lit_63, lit_64, lit_82, lit_98, lit_99, lit_100, lit_101, lit_102, lit_103, lit_104, lit_105, lit_106, lit_107, lit_108, lit_109, lit_110, lit_111, lit_112, lit_113, lit_119, lit_120, lit_127, lit_128, lit_149, lit_150, lit_202, lit_240, lit_262, lit_894, lit_900, lit_999, lit_1000, lit_2000, lit_2662, lit_2663, lit_2695, lit_2701, lit_2702, lit_3602, lit_10806, nI_add, pk_mul, cl_nI, inb_nI, nI_leI, nI_ltI, nI_eq, nI_eq_m1, m1_eq_nI, nI_eq_m2, div_nI, rem_nI, Option.bind_some, b2_0, b2_1, isb_b2, if_true_, if_false_, ↓reduceIte, reduceCtorEq, not_true_eq_false, not_false_eq_true, bt_hasBit, ult, Nat.add_zero, false_and, true_and, and_true, and_false, Nat.reduceLeDiff, Nat.reduceEqDiff, Nat.reduceLT, Bool.toNat_true, Bool.toNat_false, decide_true, decide_false, Bool.not_true, Bool.not_false, Bool.false_and, Bool.true_and, Bool.and_true, Bool.and_false, Bool.or_false, Bool.true_or, Bool.or_true, Bool.false_or, Nat.not_le.mpr hi, ha, hA, m_get, hsh, hS, ht]
          · rw [wr_same, wrs_other _ _ _ _ (by omega), b1, clrS, hA, if_pos rfl]; rfl
          · rw [wr_other _ _ _ _ _ (by omega), wrs_same, tkR, hA, hS]
            unfold tkC
            rw [b1, clrS_cop h (by omega), clrS_hi i (by omega) _ (by omega)]
            by_cases hcp : cop (M.1 7 1) i (kk / 12) = true
            · rw [if_pos ⟨hk, hcp⟩, hcp]; rfl
            · rw [if_neg (fun z => hcp z.2), b2' kk hk, Bool.eq_false_iff.mpr hcp]; rfl
    · obtain ⟨M2, rfl, b1, b2', b3⟩ := hσ
      show ∃ M', L_X9_grants_39 _ _ _ _ (n + 1) _ _ = _ ∧ _
      rw [L_X9_grants_39]
      simp (disch := omega) only [↓ite_b2r, ↓ite_nb2r, ↓lit_m1, ↓lit_m2, lit_0, lit_1, lit_2, lit_3, lit_4, lit_5, lit_6, lit_7, lit_8, lit_9, lit_10, lit_11, lit_12, lit_13, lit_14, lit_15, lit_16, lit_17, lit_18, lit_19, lit_20, lit_21, lit_22, lit_23, lit_24, lit_25, lit_26, lit_27, lit_28, lit_29, lit_30, lit_31, lit_32, lit_33, lit_34, lit_35, lit_36, lit_40, lit_41, lit_42, lit_44, lit_48, lit_57, lit_59, lit_62, lit_63, lit_64, lit_82, lit_98, lit_99, lit_100, lit_101, lit_102, lit_103, lit_104, lit_105, lit_106, lit_107, lit_108, lit_109, lit_110, lit_111, lit_112, lit_113, lit_119, lit_120, lit_127, lit_128, lit_149, lit_150, lit_202, lit_240, lit_262, lit_894, lit_900, lit_999, lit_1000, lit_2000, lit_2662, lit_2663, lit_2695, lit_2701, lit_2702, lit_3602, lit_10806, nI_add, pk_mul, cl_nI, inb_nI, nI_leI, nI_ltI, nI_eq, nI_eq_m1, m1_eq_nI, nI_eq_m2, div_nI, rem_nI, Option.bind_some, b2_0, b2_1, isb_b2, if_true_, if_false_, ↓reduceIte, reduceCtorEq, not_true_eq_false, not_false_eq_true, bt_hasBit, ult, Nat.add_zero, false_and, true_and, and_true, and_false, Nat.reduceLeDiff, Nat.reduceEqDiff, Nat.reduceLT, Bool.toNat_true, Bool.toNat_false, decide_true, decide_false, Bool.not_true, Bool.not_false, Bool.false_and, Bool.true_and, Bool.and_true, Bool.and_false, Bool.or_false, Bool.true_or, Bool.or_true, Bool.false_or, Nat.le_refl]
      clear n
      generalize hits : itsN (M.1 7 1) u s e = its at n1 n2 n3 ⊢
      have hckR : ∀ c, c < 10 → ck (M2.1 7 1) c = frN (M.1 7 1) u s e c := fun c hc10 => by rw [b1, clrS_ck, decide_eq_true hc10, Bool.true_and]; rfl
      -- the lowest free number
      refine loopI (fun n (σ : Int32) => L_X9_grants_96 (nI u) (nI s) (nI t) (b2 e) M2 n σ) (fun i σ => σ = nI i) (fun o => ∃ M', o = some (nI its, M') ∧ M'.1 7 1 = grantS (M.1 7 1) u s t e ∧ FrN M M') its (fun n i σ hi hσ => ?_) (fun n σ hσ => ?_) FU (FU_lt (by omega)) (nI 0) rfl
      · subst hσ
        refine Or.inr ⟨nI (i + 1), ?_, rfl⟩
        show L_X9_grants_96 _ _ _ _ _ (n + 1) _ = L_X9_grants_96 _ _ _ _ _ n _
        rw [L_X9_grants_96]
        simp (disch := omega) only [↓ite_b2r, ↓ite_nb2r, ↓lit_m1, ↓lit_m2, lit_0, lit_1, lit_2, lit_3, lit_4, lit_5, lit_6, lit_7, lit_8, lit_9, lit_10, lit_11, lit_12, lit_13, lit_14, lit_15, lit_16, lit_17, lit_18, lit_19, lit_20, lit_21, lit_22, lit_23, lit_24, lit_25, lit_26, lit_27, lit_28, lit_29, lit_30, lit_31, lit_32, lit_33, lit_34, lit_35, lit_36, lit_40, lit_41, lit_42, lit_44, lit_48, lit_57, lit_59, lit_62, lit_63, lit_64, lit_82, lit_98, lit_99, lit_100, lit_101, lit_102, lit_103, lit_104, lit_105, lit_106, lit_107, lit_108, lit_109, lit_110, lit_111, lit_112, lit_113, lit_119, lit_120, lit_127, lit_128, lit_149, lit_150, lit_202, lit_240, lit_262, lit_894, lit_900, lit_999, lit_1000, lit_2000, lit_2662, lit_2663, lit_2695, lit_2701, lit_2702, lit_3602, lit_10806, nI_add, pk_mul, cl_nI, inb_nI, nI_leI, nI_ltI, nI_eq, nI_eq_m1, m1_eq_nI, nI_eq_m2, div_nI, rem_nI, Option.bind_some, b2_0, b2_1, isb_b2, if_true_, if_false_, ↓reduceIte, reduceCtorEq, not_true_eq_false, not_false_eq_true, bt_hasBit, ult, Nat.add_zero, false_and, true_and, and_true, and_false, Nat.reduceLeDiff, Nat.reduceEqDiff, Nat.reduceLT, Bool.toNat_true, Bool.toNat_false, decide_true, decide_false, Bool.not_true, Bool.not_false, Bool.false_and, Bool.true_and, Bool.and_true, Bool.and_false, Bool.or_false, Bool.true_or, Bool.or_true, Bool.false_or, m_ck, hckR, n3 i hi]
      · subst hσ
        show ∃ M', L_X9_grants_96 _ _ _ _ _ (n + 1) _ = _ ∧ _
        rw [L_X9_grants_96]
        unfold f_X9_check
        simp (disch := omega) only [↓ite_b2r, ↓ite_nb2r, ↓lit_m1, ↓lit_m2, lit_0, lit_1, lit_2, lit_3, lit_4, lit_5, lit_6, lit_7, lit_8, lit_9, lit_10, lit_11, lit_12, lit_13, lit_14, lit_15, lit_16, lit_17, lit_18, lit_19, lit_20, lit_21, lit_22, lit_23, lit_24, lit_25, lit_26, lit_27, lit_28, lit_29, lit_30, lit_31, lit_32, lit_33, lit_34, lit_35, lit_36, lit_40, lit_41, lit_42, lit_44, lit_48, lit_57, lit_59, lit_62, lit_63, lit_64, lit_82, lit_98, lit_99, lit_100, lit_101, lit_102, lit_103, lit_104, lit_105, lit_106, lit_107, lit_108, lit_109, lit_110, lit_111, lit_112, lit_113, lit_119, lit_120, lit_127, lit_128, lit_149, lit_150, lit_202, lit_240, lit_262, lit_894, lit_900, lit_999, lit_1000, lit_2000, lit_2662, lit_2663, lit_2695, lit_2701, lit_2702, lit_3602, lit_10806, nI_add, pk_mul, cl_nI, inb_nI, nI_leI, nI_ltI, nI_eq, nI_eq_m1, m1_eq_nI, nI_eq_m2, div_nI, rem_nI, Option.bind_some, b2_0, b2_1, isb_b2, if_true_, if_false_, ↓reduceIte, reduceCtorEq, not_true_eq_false, not_false_eq_true, bt_hasBit, ult, Nat.add_zero, false_and, true_and, and_true, and_false, Nat.reduceLeDiff, Nat.reduceEqDiff, Nat.reduceLT, Bool.toNat_true, Bool.toNat_false, decide_true, decide_false, Bool.not_true, Bool.not_false, Bool.false_and, Bool.true_and, Bool.and_true, Bool.and_false, Bool.or_false, Bool.true_or, Bool.or_true, Bool.false_or, m_ck, hckR, n2]
        clear n
        have eop : (wr (wr (wr (wr (wr (wr M2 7 1 (202 + 6 * its) (nI 1)) 7 1 (202 + 6 * its + 1) (nI u)) 7 1 (202 + 6 * its + 2) (nI s)) 7 1 (202 + 6 * its + 3) ((wr (wr (wr M2 7 1 (202 + 6 * its) (nI 1)) 7 1 (202 + 6 * its + 1) (nI u)) 7 1 (202 + 6 * its + 2) (nI s)).1 7 1 0 + nI t)) 7 1 (202 + 6 * its + 4) (nI 1)) 7 1 (202 + 6 * its + 5) (b2 e)) = wrs M2 7 1 (opS (M2.1 7 1) its u s t e) := by
          have e1 : (wr (wr (wr M2 7 1 (202 + 6 * its) (nI 1)) 7 1 (202 + 6 * its + 1) (nI u)) 7 1 (202 + 6 * its + 2) (nI s)).1 7 1 0 = M2.1 7 1 0 := by
            rw [wr_same, upd_other (by omega), wr_same, upd_other (by omega), wr_same, upd_other (by omega)]
          have e2 : wr M2 7 1 (202 + 6 * its) (nI 1) = wrs M2 7 1 (upd (M2.1 7 1) (202 + 6 * its) (nI 1)) := rfl
          unfold opS
          rw [e1, e2, wr_wrs, wr_wrs, wr_wrs, wr_wrs, wr_wrs]
        rw [eop]
        refine loopI (fun n (σ : Int32 × Mem) => L_X9_grants_194 (nI its) n σ.1 σ.2) (fun i σ => ∃ M', σ = (nI i, M') ∧ M'.1 7 1 = cpS (opS (M2.1 7 1) its u s t e) its (tkR (M.1 7 1) u s e 10) i ∧ (∀ kk, kk < 240 → M'.1 7 5 kk = tkR (M.1 7 1) u s e 10 kk) ∧ FrN M M') (fun o => ∃ M', o = some (nI its, M') ∧ M'.1 7 1 = grantS (M.1 7 1) u s t e ∧ FrN M M') 240 (fun n i σ hi hσ => ?_) (fun n σ hσ => ?_) FU (by decide) (nI 0, wrs M2 7 1 (opS (M2.1 7 1) its u s t e)) ⟨_, rfl, ?_, fun kk hk => ?_, b3.tr (FrN_wrs _ (by omega) _)⟩
        · obtain ⟨M3, rfl, d1, d2, d3⟩ := hσ
          refine Or.inr ⟨(nI (i + 1), wr M3 7 1 (262 + 240 * its + i) (M3.1 7 5 i)), ?_, _, rfl, ?_, fun kk hk => ?_, d3.tr (FrN_wr _ (by omega) _ _)⟩
          · show L_X9_grants_194 _ (n + 1) _ _ = L_X9_grants_194 _ n _ _
            rw [L_X9_grants_194]
            unfold f_X9_copy
            simp (disch := omega) only [↓ite_b2r, ↓ite_nb2r, ↓lit_m1, ↓lit_m2, lit_0, lit_1, lit_2, lit_3, lit_4, lit_5, lit_6, lit_7, lit_8, lit_9, lit_10, lit_11, lit_12, lit_13, lit_14, lit_15, lit_16, lit_17, lit_18, lit_19, lit_20, lit_21, lit_22, lit_23, lit_24, lit_25, lit_26, lit_27, lit_28, lit_29, lit_30, lit_31, lit_32, lit_33, lit_34, lit_35, lit_36, lit_40, lit_41, lit_42, lit_44, lit_48, lit_57, lit_59, lit_62, lit_63, lit_64, lit_82, lit_98, lit_99, lit_100, lit_101, lit_102, lit_103, lit_104, lit_105, lit_106, lit_107, lit_108, lit_109, lit_110, lit_111, lit_112, lit_113, lit_119, lit_120, lit_127, lit_128, lit_149, lit_150, lit_202, lit_240, lit_262, lit_894, lit_900, lit_999, lit_1000, lit_2000, lit_2662, lit_2663, lit_2695, lit_2701, lit_2702, lit_3602, lit_10806, nI_add, pk_mul, cl_nI, inb_nI, nI_leI, nI_ltI, nI_eq, nI_eq_m1, m1_eq_nI, nI_eq_m2, div_nI, rem_nI, Option.bind_some, b2_0, b2_1, isb_b2, if_true_, if_false_, ↓reduceIte, reduceCtorEq, not_true_eq_false, not_false_eq_true, bt_hasBit, ult, Nat.add_zero, false_and, true_and, and_true, and_false, Nat.reduceLeDiff, Nat.reduceEqDiff, Nat.reduceLT, Bool.toNat_true, Bool.toNat_false, decide_true, decide_false, Bool.not_true, Bool.not_false, Bool.false_and, Bool.true_and, Bool.and_true, Bool.and_false, Bool.or_false, Bool.true_or, Bool.or_true, Bool.false_or, Nat.not_le.mpr hi, Nat.mul_zero]
          · rw [wr_same, d1, d2 i hi]
            funext k
            unfold cpS
            by_cases hk : k = 262 + 240 * its + i
            · subst hk
              rw [upd_same, if_pos (by omega)]
              congr 1
              omega
            · rw [upd_other hk]
              by_cases h2 : 262 + 240 * its ≤ k ∧ k < 262 + 240 * its + i
              · rw [if_pos h2, if_pos (by omega)]
              · rw [if_neg h2, if_neg (by omega)]
          · rw [wr_other _ _ _ _ _ (by omega)]; exact d2 kk hk
        · obtain ⟨M3, rfl, d1, d2, d3⟩ := hσ
          refine ⟨M3, ?_, ?_, d3⟩
          · show L_X9_grants_194 _ (n + 1) _ _ = _
            rw [L_X9_grants_194]
            simp (disch := omega) only [↓ite_b2r, ↓ite_nb2r, ↓lit_m1, ↓lit_m2, lit_0, lit_1, lit_2, lit_3, lit_4, lit_5, lit_6, lit_7, lit_8, lit_9, lit_10, lit_11, lit_12, lit_13, lit_14, lit_15, lit_16, lit_17, lit_18, lit_19, lit_20, lit_21, lit_22, lit_23, lit_24, lit_25, lit_26, lit_27, lit_28, lit_29, lit_30, lit_31, lit_32, lit_33, lit_34, lit_35, lit_36, lit_40, lit_41, lit_42, lit_44, lit_48, lit_57, lit_59, lit_62, lit_63, lit_64, lit_82, lit_98, lit_99, lit_100, lit_101, lit_102, lit_103, lit_104, lit_105, lit_106, lit_107, lit_108, lit_109, lit_110, lit_111, lit_112, lit_113, lit_119, lit_120, lit_127, lit_128, lit_149, lit_150, lit_202, lit_240, lit_262, lit_894, lit_900, lit_999, lit_1000, lit_2000, lit_2662, lit_2663, lit_2695, lit_2701, lit_2702, lit_3602, lit_10806, nI_add, pk_mul, cl_nI, inb_nI, nI_leI, nI_ltI, nI_eq, nI_eq_m1, m1_eq_nI, nI_eq_m2, div_nI, rem_nI, Option.bind_some, b2_0, b2_1, isb_b2, if_true_, if_false_, ↓reduceIte, reduceCtorEq, not_true_eq_false, not_false_eq_true, bt_hasBit, ult, Nat.add_zero, false_and, true_and, and_true, and_false, Nat.reduceLeDiff, Nat.reduceEqDiff, Nat.reduceLT, Bool.toNat_true, Bool.toNat_false, decide_true, decide_false, Bool.not_true, Bool.not_false, Bool.false_and, Bool.true_and, Bool.and_true, Bool.and_false, Bool.or_false, Bool.true_or, Bool.or_true, Bool.false_or, Nat.le_refl]
          · rw [d1, b1]
            unfold grantS
            rw [hits]
        · rw [wrs_same]
          funext k
          unfold cpS
          rw [if_neg (by omega)]
        · rw [wrs_other _ _ _ _ (by omega)]; exact b2' kk hk
end GR
