/-! ===== numbers of sections, children, depths fit one another ===== -/
theorem add_0' (x : Int32) : x + (0 : Int32) = x := Int32.add_zero x
section TT
variable {N : Row} {S : List Row} {T : List Nat} {M : Mem}
def sumB (N : Row) (s : Nat) : Nat → Nat
  | 0 => 0
  | j + 1 => sumB N s j + (1 + blN N (chI N s j))
theorem sumB_cnt (hN : WFt N) (hH : HC N) {s : Nat} (hs : s < 20) (hsu : us N s = true) : ∀ j, j ≤ chMany N s → sumB N s j = cntN (fun t => us N t && anyN (fun i => An N t (chI N s i)) j) 20
  | 0, _ => (cntN_0 fun t _ => by show (us N t && false) = false; rw [Bool.and_false]).symm
  | j + 1, h => by
    have ih := sumB_cnt hN hH hs hsu j (by omega)
    obtain ⟨c1, c2, c3, -⟩ := hH s hs hsu j (by omega)
    have cu := (isCh_t c2).2.1
    have e := cntN_or (n := 20) (r := fun t => us N t && anyN (fun i => An N t (chI N s i)) (j + 1)) (p := fun t => us N t && anyN (fun i => An N t (chI N s i)) j) (q := fun t => us N t && An N t (chI N s j)) (fun t _ => by
      rw [anyN_s]
      cases us N t <;> cases anyN (fun i => An N t (chI N s i)) j <;> cases An N t (chI N s j) <;> rfl) (fun t ht hp => by
      rw [Bool.and_eq_true] at hp
      obtain ⟨i, hi, hA⟩ := anyN_t.mp hp.2
      obtain ⟨d1, d2, d3, -⟩ := hH s hs hsu i (by omega)
      rw [hp.1, Bool.true_and]
      exact ch_dis hN hs hsu d1 d2 c1 c2 (fun e => by rw [e] at d3; omega) ht hp.1 hA)
    rw [e, bl_1 c1 cu, sumB, ih]
    omega
/-- a child's place among the children is below their number, and it is the one there -/
theorem ch_at (hN : WFt N) (hH : HC N) {s c : Nat} (hs : s < 20) (hsu : us N s = true) (hc : c < 20) (h : isCh N c s = true) : rk N s c < chMany N s ∧ chI N s (rk N s c) = c := by
  have h1 := rk_lt hc h
  refine ⟨h1, ?_⟩
  unfold chI
  rw [chAt_yes hN h rfl 20 hc (Nat.le_refl _), cl_nI (by omega)]
/-- what lies below lies below a child or is it -/
theorem below_ch (hN : WFt N) (hH : HC N) {s : Nat} (hs : s < 20) (hsu : us N s = true) {t : Nat} (ht : t < 20) (hu : us N t = true) : anyN (fun i => An N t (chI N s i)) (chMany N s) = (!decide (t = s) && An N t s) := by
  cases h : !decide (t = s) && An N t s with
  | true =>
    rw [Bool.and_eq_true, Bool.not_eq_true', decide_eq_false_iff_not] at h
    have key : An N t s = true → t ≠ s → ∃ c, c < 20 ∧ isCh N c s = true ∧ An N t c = true := by
      refine up_ind hN (fun t => An N t s = true → t ≠ s → ∃ c, c < 20 ∧ isCh N c s = true ∧ An N t c = true) (fun h1 h2 => ?_) (fun t h0 ht hu ih h1 h2 => ?_) t ht hu
      · rw [An_0, beq_iff_eq] at h1
        exact absurd h1 h2
      · rw [An_s hN h0 ht hu, beq_no h2, Bool.false_or] at h1
        by_cases hp : pa N t = s
        · refine ⟨t, ht, ?_, An_refl t⟩
          unfold isCh
          rw [hu, decide_eq_true hp, bne_yes (by omega)]
          rfl
        · obtain ⟨c, c1, c2, c3⟩ := ih h1 hp
          refine ⟨c, c1, c2, ?_⟩
          rw [An_s hN h0 ht hu, c3, Bool.or_true]
    obtain ⟨c, c1, c2, c3⟩ := key h.2 h.1
    obtain ⟨d1, d2⟩ := ch_at hN hH hs hsu c1 c2
    exact anyN_t.mpr ⟨_, d1, by rw [d2]; exact c3⟩
  | false =>
    refine anyN_f.mpr fun i hi => ?_
    obtain ⟨c1, c2, c3, -⟩ := hH s hs hsu i hi
    obtain ⟨z0, zu, zp⟩ := isCh_t c2
    cases hA : An N t (chI N s i) with
    | false => rfl
    | true =>
      have hcs : An N (chI N s i) s = true := by rw [ch_An hN c1 c2, An_refl, Bool.or_true]
      have hts := An_tr hN t ht hu hA hcs
      rw [hts, Bool.and_true] at h
      have hte : t = s := by
        rw [Bool.not_eq_false', decide_eq_true_eq] at h
        exact h
      subst hte
      have e9 := An_anti hN ht hu hA hcs
      obtain ⟨r, r1, r2, -⟩ := rank20 hN
      have h2 := r2 _ (by omega) c1 zu
      rw [zp] at h2
      exact absurd (congrArg r e9) (Nat.ne_of_lt h2)
theorem sumB_all (hN : WFt N) (hH : HC N) {s : Nat} (hs : s < 20) (hsu : us N s = true) : sumB N s (chMany N s) = blN N s := by
  rw [sumB_cnt hN hH hs hsu _ (Nat.le_refl _)]
  unfold blN
  refine cntN_c fun t ht => ?_
  cases hu : us N t with
  | false => rfl
  | true => rw [below_ch hN hH hs hsu ht hu]
/-- as many children as sections beside the root -/
def sumC (N : Row) : Nat → Nat
  | 0 => 0
  | s + 1 => sumC N s + (if us N s = true then chMany N s else 0)
theorem sumC_cnt (hN : WFt N) : ∀ n, n ≤ 20 → sumC N n = cntN (fun c => c != 0 && (us N c && decide (pa N c < n))) 20
  | 0, _ => (cntN_0 fun c _ => by rw [decide_eq_false (Nat.not_lt_zero _), Bool.and_false, Bool.and_false]).symm
  | n + 1, hn => by
    rw [sumC, sumC_cnt hN n (by omega)]
    have e := cntN_or (n := 20) (r := fun c => c != 0 && (us N c && decide (pa N c < n + 1))) (p := fun c => c != 0 && (us N c && decide (pa N c < n))) (q := fun c => c != 0 && (us N c && decide (pa N c = n))) (fun c _ => by
      by_cases h1 : pa N c < n
      · rw [decide_eq_true h1, decide_eq_true (show pa N c < n + 1 by omega), decide_eq_false (show ¬ pa N c = n by omega)]
        cases c != 0 <;> cases us N c <;> rfl
      · by_cases h2 : pa N c = n
        · rw [decide_eq_false h1, decide_eq_true (show pa N c < n + 1 by omega), decide_eq_true h2]
          cases c != 0 <;> cases us N c <;> rfl
        · rw [decide_eq_false h1, decide_eq_false (show ¬ pa N c < n + 1 by omega), decide_eq_false h2]
          cases c != 0 <;> cases us N c <;> rfl) (fun c _ h => by
      rw [Bool.and_eq_true, Bool.and_eq_true, decide_eq_true_eq] at h
      rw [decide_eq_false (show ¬ pa N c = n by omega), Bool.and_false, Bool.and_false])
    rw [e]
    congr 1
    cases hu : us N n with
    | true =>
      rw [if_pos rfl]
      rfl
    | false =>
      rw [if_neg (by decide)]
      refine (cntN_0 fun c hc => ?_).symm
      by_cases h0 : c = 0
      · subst h0; rfl
      · cases huc : us N c with
        | false => rw [Bool.false_and, Bool.and_false]
        | true =>
          obtain ⟨-, p1, p2⟩ := hN.2.2.2.1 c (by omega) hc huc
          rw [decide_eq_false (fun z => by rw [z, hu] at p2; cases p2), Bool.and_false, Bool.and_false]
theorem sumC_all (hN : WFt N) : sumC N 20 + 1 = manyS N := by
  rw [sumC_cnt hN 20 (by omega)]
  unfold manyS
  rw [cnt_del (f := us N) (a := 0) (by omega), us_0 hN]
  congr 1
  refine cntN_c fun c hc => ?_
  by_cases h0 : c = 0
  · subst h0
    rw [decide_eq_true rfl, Bool.not_true, Bool.and_false]
    rfl
  · rw [bne_yes h0, decide_eq_false h0, Bool.not_false, Bool.and_true, Bool.true_and]
    cases hu : us N c with
    | false => rfl
    | true =>
      obtain ⟨-, p1, p2⟩ := hN.2.2.2.1 c (by omega) hc hu
      rw [decide_eq_true p1]
      rfl
theorem aSec_v {s w : Nat} (hs : s < 20) (hu : us N s = true) (hw : w < 5) : aSec N (nI s) (nI w) = secV N s w := by
  unfold aSec
  rw [isS_nI hs, hu, if_pos rfl, inR_nI (by omega) (by decide), decide_eq_true hw, if_pos rfl, cl_nI (by omega), cl_nI (by omega)]
theorem bl_le (N : Row) (s : Nat) : blN N s ≤ 20 := cntN_le _ _
/-- a section's children, from the k-th on -/
theorem p_tree64 (hN : WFa N) (h : De N S T M) (k32 : Int32 → Int32 → Int32 → Int32 → Mem → Option (Int32 × Mem)) {x1 x2 : Int32} {s : Nat} (hs : s < 20) (hu : us N s = true) : ∀ d k, k + d = chMany N s → ∀ n, d < n → L_L_isTree_64 k32 x1 x2 (nI s) n 1 (nI (sumB N s k)) (nI k) M = k32 x1 (x2 + nI (chMany N s)) 1 (nI (s + 1)) M := by
  have hH := HC_of hN.1.1 h.1.2.1
  have hle := chMany_le N s
  have hbl := bl_le N s
  have hall := sumB_all hN.1.1 hH hs hu
  have dps := dp_pos hN.1.1 hs hu
  have e1 : f_L_section (nI s) 1 M = some (nI (chMany N s), M) := by
    rw [e_section hN h]
    exact congrArg (fun z => some (z, M)) (aSec_v (w := 1) hs hu (by omega))
  intro d
  induction d with
  | zero =>
    intro k hk n hn1
    obtain ⟨n, rfl⟩ : ∃ m, n = m + 1 := ⟨n - 1, by omega⟩
    have : k = chMany N s := by omega
    subst this
    rw [L_L_isTree_64, e1, Option.bind_some]
    dsimp only
    rw [if_pos (Int32.le_refl _)]
    unfold B_L_isTree_147
    rw [e1, Option.bind_some]
    dsimp only
    rw [if_neg (show ¬ (1 : Int32) = 0 by decide), e_section hN h, show aSec N (nI s) 4 = nI (blN N s) from aSec_v (w := 4) hs hu (by omega), Option.bind_some]
    dsimp only
    rw [if_pos (by rw [hall]), e1, Option.bind_some]
    dsimp only
    have ec : aChi N (nI s) (nI (chMany N s)) = -53 := by
      unfold aChi
      rw [isS_nI hs, hu, if_pos rfl, cl_nI (by omega), inR_nI (by omega) (by omega), decide_eq_false (Nat.lt_irrefl _)]
      rfl
    rw [e_child hN h, ec, Option.bind_some]
    dsimp only
    rw [if_pos rfl]
    unfold B_L_isTree_196 B_L_isTree_197
    rw [nI_s1]
  | succ d ih =>
    intro k hk n hn1
    obtain ⟨n, rfl⟩ : ∃ m, n = m + 1 := ⟨n - 1, by omega⟩
    obtain ⟨c1, c2, c3, c4⟩ := hH s hs hu k (by omega)
    obtain ⟨z0, zu, zp⟩ := isCh_t c2
    have ec : aChi N (nI s) (nI k) = nI (chI N s k) := by
      unfold aChi
      rw [isS_nI hs, hu, if_pos rfl, cl_nI (by omega), inR_nI (by omega) (by omega), decide_eq_true (show k < chMany N s by omega), if_pos rfl]
      exact c4
    have dpc : dpN N (chI N s k) = dpN N s + 1 := by rw [dp_s hN.1.1 (by omega) c1 zu, zp]
    have hsub : ∀ j, j ≤ chMany N s → sumB N s j ≤ 20 := fun j hj => by rw [sumB_cnt hN.1.1 hH hs hu j hj]; exact cntN_le _ _
    rw [L_L_isTree_64, e1, Option.bind_some]
    dsimp only
    rw [if_neg (show ¬ nI (chMany N s) ≤ nI k by rw [nI_leI (by omega) (by omega)]; omega), if_neg (show ¬ (1 : Int32) = 0 by decide), e_child hN h, ec, Option.bind_some]
    dsimp only
    rw [e_section hN h, show aSec N (nI (chI N s k)) 4 = nI (blN N (chI N s k)) from aSec_v (w := 4) c1 zu (by omega), Option.bind_some]
    dsimp only
    rw [e_section hN h, aSec_0 c1 zu, Option.bind_some]
    dsimp only
    rw [if_pos (show N (22 + chI N s k) = nI s by rw [(hN.1.1.2.2.2.1 _ (by omega) c1 zu).1, zp]), e_section hN h, show aSec N (nI (chI N s k)) 2 = nI (dpN N (chI N s k) - 1) from aSec_v (w := 2) c1 zu (by omega), Option.bind_some]
    dsimp only
    rw [e_section hN h, show aSec N (nI s) 2 = nI (dpN N s - 1) from aSec_v (w := 2) hs hu (by omega), Option.bind_some]
    dsimp only
    rw [if_pos (show nI (dpN N (chI N s k) - 1) = nI (dpN N s - 1) + 1 by rw [nI_s1, dpc]; congr 1; omega)]
    unfold B_L_isTree_140
    rw [show nI (sumB N s k) + ((1 : Int32) + nI (blN N (chI N s k))) = nI (sumB N s (k + 1)) from by rw [show (1 : Int32) + nI (blN N (chI N s k)) = nI (1 + blN N (chI N s k)) from nI_add 1 _, nI_add, sumB], nI_s1]
    exact ih (k + 1) (by omega) n (by omega)
theorem cntN_us_s (s : Nat) : nI (cntN (us N) s) + (if us N s = true then (1 : Int32) else 0) = nI (cntN (us N) (s + 1)) := by
  rw [cntN_s]
  cases us N s with
  | true => exact nI_add _ 1
  | false => exact nI_add _ 0
theorem p_tree (hN : WFa N) (h : De N S T M) : f_L_isTree M = some (1, M) := by
  have hall := sumC_all hN.1.1
  have hm20 := manyS_le N
  have key : ∀ d s, s + d = 20 → ∀ n, d < n → L_L_isTree_32 n (nI (cntN (us N) s)) (nI (sumC N s)) 1 (nI s) M = some (1, M) := by
    intro d
    induction d with
    | zero =>
      intro s hs n hn1
      obtain ⟨n, rfl⟩ : ∃ m, n = m + 1 := ⟨n - 1, by omega⟩
      have : s = 20 := by omega
      subst this
      rw [L_L_isTree_32, if_pos (show (20 : Int32) ≤ nI 20 from Int32.le_refl _)]
      unfold B_L_isTree_203
      rw [if_neg (show ¬ (1 : Int32) = 0 by decide), e_sections hN h, if_pos (show nI (cntN (us N) 20) = nI (manyS N) from rfl), if_pos]
      rw [show cntN (us N) 20 = manyS N from rfl, ← hall, show nI (sumC N 20 + 1) - (1 : Int32) = nI (sumC N 20) from nI_pred _]
    | succ d ih =>
      intro s hs n hn1
      obtain ⟨n, rfl⟩ : ∃ m, n = m + 1 := ⟨n - 1, by omega⟩
      have hs20 : s < 20 := by omega
      have e := cntN_us_s (N := N) s
      rw [L_L_isTree_32, if_neg (show ¬ (20 : Int32) ≤ nI s from fun z => by have z2 : nI 20 ≤ nI s := z; rw [nI_leI (by omega) (by omega)] at z2; omega), if_neg (show ¬ (1 : Int32) = 0 by decide), e_section hN h, Option.bind_some]
      dsimp only
      cases hu : us N s with
      | false =>
        have ea : aSec N (nI s) 0 = -53 := by unfold aSec; rw [isS_nI hs20, hu]; rfl
        rw [ea, if_pos (by decide)]
        unfold B_L_isTree_197
        rw [hu, if_neg (by decide), add_0'] at e
        have e2 : sumC N (s + 1) = sumC N s := by rw [sumC, hu, if_neg (by decide), Nat.add_zero]
        rw [nI_s1, e, ← e2]
        exact ih (s + 1) (by omega) n (by omega)
      | true =>
        have hge : ¬ N (22 + s) ≤ -2 := by
          by_cases h0 : s = 0
          · subst h0
            rw [show N (22 + 0) = mI from hN.1.1.2.2.1]
            decide
          · obtain ⟨e9, p1, -⟩ := hN.1.1.2.2.2.1 s (by omega) hs20 hu
            rw [e9]
            intro z
            have h2 : (-2 : Int32) < nI (pa N s) := Int32.lt_of_lt_of_le (by decide) (show nI 0 ≤ nI (pa N s) by rw [nI_leI (by omega) (by omega)]; omega)
            exact Int32.not_lt.mpr z h2
        rw [aSec_0 hs20 hu, if_neg hge]
        have h64 := p_tree64 hN h (L_L_isTree_32 n) (x1 := nI (cntN (us N) s) + 1) (x2 := nI (sumC N s)) hs20 hu (chMany N s) 0 (by omega) 21 (by have := chMany_le N s; omega)
        rw [hu, if_pos rfl] at e
        have h64' : L_L_isTree_64 (L_L_isTree_32 n) (nI (cntN (us N) s) + 1) (nI (sumC N s)) (nI s) 21 1 0 0 M = _ := h64
        rw [h64', e, nI_add, show sumC N s + chMany N s = sumC N (s + 1) from by rw [sumC, hu, if_pos rfl]]
        exact ih (s + 1) (by omega) n (by omega)
  unfold f_L_isTree
  rw [e_section hN h, show aSec N 0 0 = N (22 + 0) from aSec_0 (s := 0) (by decide) (us_0 hN.1.1), Option.bind_some]
  dsimp only
  rw [if_pos (show N (22 + 0) = -1 from hN.1.1.2.2.1), e_section hN h, show aSec N 0 2 = nI (dpN N 0 - 1) from aSec_v (s := 0) (w := 2) (by decide) (us_0 hN.1.1) (by decide), Option.bind_some]
  dsimp only
  rw [dp_0 hN.1.1, if_pos (show nI (1 - 1) = 0 from rfl)]
  unfold B_L_isTree_28
  exact key 20 0 (by omega) 21 (by omega)
end TT
