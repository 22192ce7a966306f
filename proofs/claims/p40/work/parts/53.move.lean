/-! ===== a section is moved ===== -/
def movS (N : Row) (s p : Nat) : Row := upd (upd (upd N (22 + s) (nI p)) (42 + s) (N 1)) 1 (N 1 + nI 1)
section MV
variable {N : Row} {p s : Nat}
theorem movS_o {k : Nat} (h2 : k ≠ 22 + s) (h3 : k ≠ 42 + s) (h4 : k ≠ 1) : movS N s p k = N k := by
  unfold movS
  rw [upd_other h4, upd_other h3, upd_other h2]
theorem movS_us (hs : s < 20) {t : Nat} (ht : t < 20) : us (movS N s p) t = us N t := by unfold us; rw [movS_o (by omega) (by omega) (by omega)]
theorem movS_p (hs : s < 20) : movS N s p (22 + s) = nI p := by
  unfold movS
  rw [upd_other (by omega), upd_other (by omega), upd_same]
theorem movS_pl (hs : s < 20) : movS N s p (42 + s) = N 1 := by
  unfold movS
  rw [upd_other (by omega), upd_same]
theorem movS_1 : movS N s p 1 = N 1 + nI 1 := upd_same
theorem movS_pa (hs : s < 20) {t : Nat} (ht : t < 20) (h : t ≠ s) : pa (movS N s p) t = pa N t := by unfold pa; rw [movS_o (by omega) (by omega) (by omega)]
theorem movS_pas (hs : s < 20) (hp : p < 20) : pa (movS N s p) s = p := by unfold pa; rw [movS_p hs, cl_nI (by omega)]
theorem An_up {N : Row} (h : WFt N) {t u : Nat} (h0 : 0 < t) (ht : t < 20) (hu : us N t = true) (hne : t ≠ u) : An N (pa N t) u = An N t u := by rw [An_s h h0 ht hu, beq_no hne, Bool.false_or]
theorem WFt_mov (hN : WFt N) (hs0 : s ≠ 0) (hs : s < 20) (hus : us N s = true) (hp : p < 20) (hup : us N p = true) (hna : An N p s = false) (hb : cl (N 1) + 1 < 1073741824) : WFt (movS N s p) := by
  obtain ⟨r, r1, r2, r3⟩ := rank20 hN
  have h1 := hN.2.2.2.2.2.1
  have e1 : movS N s p 1 = nI (cl (N 1) + 1) := by rw [movS_1, h1.1, nI_add, cl_nI (by omega)]
  have c1 : cl (movS N s p 1) = cl (N 1) + 1 := by rw [e1, cl_nI (by omega)]
  refine ⟨fun t ht => ?_, ?_, ?_, fun t h0 ht hu => ?_, ⟨fun t => if An N t s = true then r t + r p + 1 else r t, fun t h0 ht hu => ?_⟩, ?_, fun t h0 ht hu => ?_, fun t t' a b c a' b' c' e => ?_⟩
  · rw [movS_o (by omega) (by omega) (by omega)]; exact hN.1 t ht
  · rw [movS_o (by omega) (by omega) (by omega)]; exact hN.2.1
  · rw [movS_o (by omega) (by omega) (by omega)]; exact hN.2.2.1
  · rw [movS_us hs ht] at hu
    by_cases h : t = s
    · subst h
      rw [movS_pas hs hp, movS_p hs, movS_us hs hp]
      exact ⟨rfl, hp, hup⟩
    · obtain ⟨a1, a2, a3⟩ := hN.2.2.2.1 t h0 ht hu
      rw [movS_pa hs ht h, movS_o (by omega) (by omega) (by omega), movS_us hs a2]
      exact ⟨a1, a2, a3⟩
  · rw [movS_us hs ht] at hu
    dsimp only
    by_cases h : t = s
    · subst h
      rw [movS_pas hs hp, hna, if_neg (by decide), if_pos (An_refl t)]
      omega
    · rw [movS_pa hs ht h, An_up hN h0 ht hu h]
      have := r2 t h0 ht hu
      by_cases ha : An N t s = true
      · rw [if_pos ha, if_pos ha]; omega
      · rw [if_neg ha, if_neg ha]; exact this
  · unfold isV
    rw [c1]
    exact ⟨e1, hb⟩
  · rw [movS_us hs ht] at hu
    unfold isV
    rw [c1]
    by_cases h : t = s
    · subst h
      rw [movS_pl hs]
      exact ⟨h1.1, by omega⟩
    · rw [movS_o (by omega) (by omega) (by omega)]
      obtain ⟨b1, b2⟩ := hN.2.2.2.2.2.2.1 t h0 ht hu
      exact ⟨b1, by omega⟩
  · rw [movS_us hs b] at c
    rw [movS_us hs b'] at c'
    have hpl : ∀ t, 0 < t → t < 20 → t ≠ s → us N t = true → movS N s p (42 + t) = N (42 + t) ∧ cl (N (42 + t)) < cl (N 1) := fun t h0 ht h hu => ⟨movS_o (by omega) (by omega) (by omega), (hN.2.2.2.2.2.2.1 t h0 ht hu).2⟩
    by_cases h : t = s
    · by_cases h' : t' = s
      · rw [h, h']
      · obtain ⟨b1, b2⟩ := hpl t' a' b' h' c'
        rw [h, movS_pl hs, b1] at e
        rw [← e] at b2
        omega
    · by_cases h' : t' = s
      · obtain ⟨b1, b2⟩ := hpl t a b h c
        rw [h', movS_pl hs, b1] at e
        rw [e] at b2
        omega
      · rw [(hpl t a b h c).1, (hpl t' a' b' h' c').1] at e
        exact hN.2.2.2.2.2.2.2 t t' a b c a' b' c' e
/-- for a section that neither overlaps the moved one nor lies above its new parent nothing changes -/
theorem An_mov (hN : WFt N) (hR : WFt (movS N s p)) (hs0 : s ≠ 0) (hs : s < 20) (hus : us N s = true) (hp : p < 20) (hup : us N p = true) (hna : An N p s = false) {u : Nat} (hov : Ov N s u = false) (hpu : An N p u = false) {t : Nat} (ht : t < 20) (hut : us N t = true) : An (movS N s p) t u = An N t u := by
  have hout : ∀ t, t < 20 → us N t = true → An N t s = false → An (movS N s p) t u = An N t u := by
    intro t ht hut hts
    refine An_ext hN hR (fun t => An N t s = false) (by rw [An_0, beq_no (fun e => hs0 e.symm)]) (fun t h0 ht hut hP => ?_) t ht hut hts
    have hne : t ≠ s := fun e => by rw [e, An_refl] at hP; cases hP
    refine ⟨by rw [movS_us hs ht]; exact hut, movS_pa hs ht hne, ?_⟩
    show An N (pa N t) s = false
    rw [An_up hN h0 ht hut hne]
    exact hP
  unfold Ov at hov
  rw [Bool.or_eq_false_iff] at hov
  cases hts : An N t s with
  | false => exact hout t ht hut hts
  | true =>
    have hN0 : An N t u = false := by
      cases h : An N t u with
      | false => rfl
      | true =>
        have := An_cmp hN t ht hut hts h
        unfold Ov at this
        rw [hov.1, hov.2] at this
        cases this
    rw [hN0]
    refine up_ind hN (fun t => An N t s = true → An (movS N s p) t u = false) (fun h => ?_) (fun t h1 h2 h3 ih h => ?_) t ht hut hts
    · rw [An_0, beq_iff_eq] at h
      exact absurd h.symm hs0
    · by_cases hte : t = s
      · subst hte
        rw [An_s hR h1 h2 (by rw [movS_us hs h2]; exact h3), movS_pas hs hp, hout p hp hup hna, hpu, Bool.or_false]
        refine beq_no fun e => ?_
        rw [← e, An_refl] at hov
        cases hov.1
      · rw [An_s hR h1 h2 (by rw [movS_us hs h2]; exact h3), movS_pa hs h2 hte, ih (by rw [An_up hN h1 h2 h3 hte]; exact h), Bool.or_false]
        refine beq_no fun e => ?_
        rw [e, hov.2] at h
        cases h
theorem movS_hi (hs : s < 20) : eqR 62 3602 (movS N s p) N := fun k h _ => movS_o (by omega) (by omega) (by omega)
theorem mov_free (hN : WFa N) (ht : Tou N s = false) (hc : Cov N p = false) {c : Nat} (hcc : c < 10) (hk : ck N c = true) : Ov N s (sec N c) = false ∧ An N p (sec N c) = false := by
  unfold Tou at ht
  unfold Cov at hc
  rw [Bool.or_eq_false_iff] at ht hc
  have h1 := anyN_f.mp ht.2 c hcc
  have h2 := anyN_f.mp hc.1 c hcc
  rw [hk, Bool.true_and] at h1 h2
  exact ⟨h1, h2⟩
theorem WFa_mov (hN : WFa N) (hs0 : s ≠ 0) (hs : s < 20) (hus : us N s = true) (hp : p < 20) (hup : us N p = true) (hna : An N p s = false) (ht : Tou N s = false) (hcv : Cov N p = false) (hb : cl (N 1) + 1 < 1073741824) : WFa (movS N s p) := by
  have hR := WFt_mov hN.1.1 hs0 hs hus hp hup hna hb
  have hc := hN.1.2.1
  refine WFa_tree hN hR (movS_o (by omega) (by omega) (by omega)) ((movS_hi hs).sub (by omega) (by omega)) (fun k hk => isV_cg (movS_hi hs _ (by omega) (by omega)) (hN.1.2.2.1.1 k hk)) (WFh_cg ((movS_hi hs).sub (by omega) (by omega)) hN.1.2.2.2.2.2) (fun c hc10 hk => ?_) (fun k hk => ?_) (fun c c' h1 h2 k1 k2 => ?_)
  · rw [movS_us hs (sec_lt hc hc10 hk)]; exact sec_us hc hc10 hk
  · obtain ⟨-, b, c⟩ := wse_eq hN.1.2.2.2.1 hk
    rw [movS_us hs b]; exact c
  · obtain ⟨a1, a2⟩ := mov_free hN ht hcv h1 k1
    obtain ⟨b1, b2⟩ := mov_free hN ht hcv h2 k2
    unfold Ov
    rw [An_mov hN.1.1 hR hs0 hs hus hp hup hna b1 b2 (sec_lt hc h1 k1) (sec_us hc h1 k1), An_mov hN.1.1 hR hs0 hs hus hp hup hna a1 a2 (sec_lt hc h2 k2) (sec_us hc h2 k2)]
theorem c_move {M : Mem} {g : Nat} (hN : WFa N) (h : RD (M.1 g) N) (hs0 : s ≠ 0) (hs : s < 20) (hus : us N s = true) (hp : p < 20) (hup : us N p = true) (hna : An N p s = false) (htou : Tou N s = false) (hcv : Cov N p = false) (hb : cl (N 1) + 1 < 1073741824) : ∃ M', f_X7_move g (nI s) (nI p) M = some M' ∧ RD (M'.1 g) (movS N s p) ∧ Fr g M M' := by
  have hR := WFt_mov hN.1.1 hs0 hs hus hp hup hna hb
  have hm20 := manyS_le N
  have hmR : manyS (movS N s p) = manyS N := cntN_c fun t ht => movS_us hs ht
  obtain ⟨h16, q, q1, q2, q3, q4⟩ := h.2.1
  obtain ⟨i0, hi0, hq0⟩ := q2 s hs hus
  have hqne : ∀ i, i < manyS N → i ≠ i0 → q i ≠ s := fun i hi hne e => by
    rcases Nat.lt_or_gt_of_ne hne with hlt | hlt
    · exact q3 i i0 hlt hi0 (e.trans hq0.symm)
    · exact q3 i0 i hlt hi (hq0.trans e.symm)
  have hfin : ∀ M1 : Mem, M1.1 g 3 = (fun x => if i0 ≤ x ∧ x < manyS N - 1 then M.1 g 3 (x + 1) else M.1 g 3 x) → (∀ j, j ≠ 3 → M1.1 g j = M.1 g j) → Fr g M M1 → ∃ M', B_X7_move_69 g (nI s) (nI p) (nI (manyS N - 1)) M1 = some M' ∧ RD (M'.1 g) (movS N s p) ∧ Fr g M M' := by
    intro M1 a3 aj aF
    generalize hM2 : wr (wr M1 g 3 (manyS N - 1) (nI s)) g 2 s (nI p) = M2
    have k2 : M2.1 g 2 = upd (M.1 g 2) s (nI p) := by rw [← hM2, wr_same, wr_other _ _ _ _ _ (by omega), aj 2 (by omega)]
    have k3 : M2.1 g 3 = upd (fun x => if i0 ≤ x ∧ x < manyS N - 1 then M.1 g 3 (x + 1) else M.1 g 3 x) (manyS N - 1) (nI s) := by rw [← hM2, wr_other _ _ _ _ _ (by omega), wr_same, a3]
    have kj : ∀ j, j ≠ 2 → j ≠ 3 → M2.1 g j = M.1 g j := fun j h1 h2 => by rw [← hM2, wr_other _ _ _ _ _ (by omega), wr_other _ _ _ _ _ (by omega)]; exact aj j h2
    have kF : Fr g M M2 := by rw [← hM2]; exact (aF.tr (Fr_wr _ _ _ _ _)).tr (Fr_wr _ _ _ _ _)
    have p2 : ∀ t, t < 20 → us (movS N s p) t = true → M2.1 g 2 t = movS N s p (22 + t) := fun t ht hu => by
      rw [movS_us hs ht] at hu
      rw [k2]
      by_cases hts : t = s
      · subst hts; rw [upd_same, movS_p hs]
      · rw [upd_other hts, movS_o (by omega) (by omega) (by omega)]
        exact h.1.1 t ht hu
    have p2n : ∀ t, t < 20 → us (movS N s p) t = false → M2.1 g 2 t = mII := fun t ht hu => by
      rw [movS_us hs ht] at hu
      rw [k2, upd_other (fun e => by rw [e, hus] at hu; cases hu)]
      exact h.1.2.1 t ht hu
    obtain ⟨M3, f1, f2, f3, f4, f5⟩ := c_findOverlaps (M := M2) (g := g) hR p2 p2n
    refine ⟨M3, ?_, ?_, kF.tr f5⟩
    · unfold B_X7_move_69 B_X7_move_82
      simp (disch := omega) only [↓ite_b2r, ↓ite_nb2r, ↓lit_m1, ↓lit_m2, lit_0, lit_1, lit_2, lit_3, lit_4, lit_5, lit_6, lit_7, lit_8, lit_9, lit_10, lit_11, lit_12, lit_13, lit_14, lit_15, lit_16, lit_17, lit_18, lit_19, lit_20, lit_21, lit_22, lit_23, lit_24, lit_25, lit_26, lit_27, lit_28, lit_29, lit_30, lit_31, lit_32, lit_33, lit_34, lit_35, lit_36, lit_40, lit_41, lit_42, lit_44, lit_48, lit_57, lit_59, lit_62, lit_63, lit_64, lit_82, lit_98, lit_99, lit_100, lit_101, lit_102, lit_103, lit_104, lit_105, lit_106, lit_107, lit_108, lit_109, lit_110, lit_111, lit_112, lit_113, lit_119, lit_120, lit_127, lit_128, lit_149, lit_150, lit_202, lit_240, lit_262, lit_894, lit_900, lit_999, lit_1000, lit_2000, lit_2662, lit_2663, lit_2695, lit_2701, lit_2702, lit_3602, lit_10806, nI_add, pk_mul, cl_nI, inb_nI, nI_leI, nI_ltI, nI_eq, nI_eq_m1, m1_eq_nI, nI_eq_m2, div_nI, rem_nI, Option.bind_some, b2_0, b2_1, isb_b2, if_true_, if_false_, ↓reduceIte, reduceCtorEq, not_true_eq_false, not_false_eq_true, bt_hasBit, ult, Nat.add_zero, false_and, true_and, and_true, and_false, Nat.reduceLeDiff, Nat.reduceEqDiff, Nat.reduceLT, Bool.toNat_true, Bool.toNat_false, decide_true, decide_false, Bool.not_true, Bool.not_false, Bool.false_and, Bool.true_and, Bool.and_true, Bool.and_false, Bool.or_false, Bool.true_or, Bool.or_true, Bool.false_or, show ¬ 20 ≤ manyS N - 1 by omega, hM2, f1]
    · have hj : ∀ j, j ≠ 2 → j ≠ 3 → j ≠ 6 → j ≠ 7 → M3.1 g j = M.1 g j := fun j h1 h2 h3 h4 => (f4 j h3 h4).trans (kj j h1 h2)
      refine RD_tree (D := M.1 g) hN (movS_o (by omega) (by omega) (by omega)) ((movS_hi hs).sub (by omega) (by omega)) ⟨fun t ht hu => ?_, fun t ht hu => ?_, fun t ht hu => ?_, fun t l ht hl hu => ?_, f2, f3⟩ ⟨?_, ?_⟩ ?_ (fun j hjj => hj j (by omega) (by omega) (by omega) (by omega)) (fun c s' hc hs' hk hu ha => ?_) h
      · rw [f4 2 (by omega) (by omega)]; exact p2 t ht hu
      · rw [f4 2 (by omega) (by omega)]; exact p2n t ht hu
      · rw [movS_us hs ht] at hu
        rw [hj 4 (by omega) (by omega) (by omega) (by omega), movS_o (by omega) (by omega) (by omega)]
        exact h.1.2.2.1 t ht hu
      · rw [movS_us hs ht] at hu
        rw [hj 5 (by omega) (by omega) (by omega) (by omega), movS_o (by omega) (by omega) (by omega)]
        exact h.1.2.2.2.1 t l ht hl hu
      · rw [hj 1 (by omega) (by omega) (by omega) (by omega), hmR]; exact h16
      · rw [hmR]
        have hqv : ∀ i, i < manyS N → i ≠ manyS N - 1 → (if i0 ≤ i then q (i + 1) else q i) ≠ s ∧ (if i0 ≤ i then q (i + 1) else q i) < 20 ∧ us N (if i0 ≤ i then q (i + 1) else q i) = true := fun i hi hne => by
          by_cases h2 : i0 ≤ i
          · rw [if_pos h2]
            exact ⟨hqne (i + 1) (by omega) (by omega), (q1 (i + 1) (by omega)).2⟩
          · rw [if_neg h2]
            exact ⟨hqne i hi (by omega), (q1 i hi).2⟩
        have hpl : ∀ t, t < 20 → t ≠ s → movS N s p (42 + t) = N (42 + t) := fun t ht hts => movS_o (by omega) (by omega) (by omega)
        refine ⟨fun i => if i = manyS N - 1 then s else if i0 ≤ i then q (i + 1) else q i, fun i hi => ?_, fun t ht hu => ?_, fun i j hij hjm => ?_, fun i j hij hjm h1 h2 => ?_⟩
        · dsimp only
          rw [f4 3 (by omega) (by omega), k3]
          by_cases him : i = manyS N - 1
          · rw [if_pos him, him, upd_same, movS_us hs hs]
            exact ⟨rfl, hs, hus⟩
          · obtain ⟨v1, v2, v3⟩ := hqv i hi him
            rw [upd_other him, if_neg him, movS_us hs v2]
            refine ⟨?_, v2, v3⟩
            by_cases h2 : i0 ≤ i
            · rw [if_pos ⟨h2, by omega⟩, if_pos h2]; exact (q1 (i + 1) (by omega)).1
            · rw [if_neg (fun z => h2 z.1), if_neg h2]; exact (q1 i hi).1
        · rw [movS_us hs ht] at hu
          dsimp only
          by_cases hts : t = s
          · exact ⟨manyS N - 1, by omega, by rw [if_pos rfl, hts]⟩
          · obtain ⟨i, b1, b2'⟩ := q2 t ht hu
            have hii : i ≠ i0 := fun e => hts (by rw [← b2', e]; exact hq0)
            by_cases h2 : i0 < i
            · exact ⟨i - 1, by omega, by rw [if_neg (by omega), if_pos (by omega), show i - 1 + 1 = i by omega]; exact b2'⟩
            · exact ⟨i, b1, by rw [if_neg (by omega), if_neg (by omega)]; exact b2'⟩
        · dsimp only
          rw [if_neg (show ¬ i = manyS N - 1 by omega)]
          by_cases hjn : j = manyS N - 1
          · rw [if_pos hjn]
            exact (hqv i (by omega) (by omega)).1
          · rw [if_neg hjn]
            by_cases h2 : i0 ≤ i
            · rw [if_pos h2, if_pos (by omega)]
              exact q3 (i + 1) (j + 1) (by omega) (by omega)
            · rw [if_neg h2]
              by_cases h3 : i0 ≤ j
              · rw [if_pos h3]; exact q3 i (j + 1) (by omega) (by omega)
              · rw [if_neg h3]; exact q3 i j (by omega) (by omega)
        · dsimp only at h1 h2 ⊢
          have hin : ¬ i = manyS N - 1 := by omega
          obtain ⟨v1, v2, v3⟩ := hqv i (by omega) hin
          rw [if_neg hin] at h1 ⊢
          rw [hpl _ v2 v1]
          by_cases hjn : j = manyS N - 1
          · rw [if_pos hjn, movS_pl hs]
            exact (place_eq hN.1.1 (by omega) v2 v3).2
          · obtain ⟨w1, w2, w3⟩ := hqv j hjm hjn
            rw [if_neg hjn] at h2 ⊢
            rw [hpl _ w2 w1]
            by_cases h3 : i0 ≤ i
            · rw [if_pos h3] at h1 ⊢
              rw [if_pos (by omega)] at h2 ⊢
              exact q4 (i + 1) (j + 1) (by omega) (by omega) h1 h2
            · rw [if_neg h3] at h1 ⊢
              by_cases h4 : i0 ≤ j
              · rw [if_pos h4] at h2 ⊢
                exact q4 i (j + 1) (by omega) (by omega) h1 h2
              · rw [if_neg h4] at h2 ⊢
                exact q4 i j (by omega) (by omega) h1 h2
      · exact RDh_D (hj 14 (by omega) (by omega) (by omega) (by omega)) (hj 15 (by omega) (by omega) (by omega) (by omega)) (RDh_cg ((movS_hi hs).sub (by omega) (by omega)) hN.1.2.2.2.2.2 h.2.2.2.2.2.1)
      · rw [movS_us hs hs'] at hu
        obtain ⟨b1, b2'⟩ := mov_free hN htou hcv hc hk
        rw [An_mov hN.1.1 hR hs0 hs hus hp hup hna b1 b2' hs' hu] at ha
        exact ⟨hu, ha⟩
  unfold f_X7_move
  rw [c_hasN h.1 hN.1.1 hs, hus, Option.bind_some, if_neg (show ¬ b2 true = 0 by decide)]
  refine loopI (fun n (σ : Int32 × Int32 × Mem) => L_X7_move_14 g (nI s) (nI p) n σ.1 σ.2.1 σ.2.2) (fun i σ => ∃ M', σ = (nI (if i ≤ i0 then i else i - 1), nI i, M') ∧ M'.1 g 3 = (fun x => if i0 ≤ x ∧ x < i - 1 then M.1 g 3 (x + 1) else M.1 g 3 x) ∧ (∀ j, j ≠ 3 → M'.1 g j = M.1 g j) ∧ Fr g M M') (fun o => ∃ M', o = some M' ∧ RD (M'.1 g) (movS N s p) ∧ Fr g M M') (manyS N) (fun n i σ hi hσ => ?_) (fun n σ hσ => ?_) FU (FU_lt (by omega)) (nI 0, nI 0, M) ⟨M, by rw [if_pos (Nat.zero_le _)], funext fun x => by rw [if_neg (by omega)], fun _ _ => rfl, Fr.rf⟩
  · obtain ⟨M1, rfl, a3, aj, aF⟩ := hσ
    refine Or.inr ?_
    show ∃ s', L_X7_move_14 g (nI s) (nI p) (n + 1) _ _ _ = L_X7_move_14 g (nI s) (nI p) n _ _ _ ∧ _
    have b16 : M1.1 g 1 6 = nI (manyS N) := by rw [aj 1 (by omega)]; exact h16
    obtain ⟨v1, v2, v3⟩ := q1 i hi
    have b3 : M1.1 g 3 i = nI (q i) := by rw [a3]; dsimp only; rw [if_neg (by omega)]; exact v1
    rw [L_X7_move_14]
    unfold B_X7_move_63
    by_cases hii : i = i0
    · subst hii
      refine ⟨(nI i, nI (i + 1), M1), ?_, M1, ?_, ?_, aj, aF⟩
      · simp (disch := omega) only [↓ite_b2r, ↓ite_nb2r, ↓lit_m1, ↓lit_m2, lit_0, lit_1, lit_2, lit_3, lit_4, lit_5, lit_6, lit_7, lit_8, lit_9, lit_10, lit_11, lit_12, lit_13, lit_14, lit_15, lit_16, lit_17, lit_18, lit_19, lit_20, lit_21, lit_22, lit_23, lit_24, lit_25, lit_26, lit_27, lit_28, lit_29, lit_30, lit_31, lit_32, lit_33, lit_34, lit_35, lit_36, lit_40, lit_41, lit_42, lit_44, lit_48, lit_57, lit_59, lit_62, lit_63, lit_64, lit_82, lit_98, lit_99, lit_100, lit_101, lit_102, lit_103, lit_104, lit_105, lit_106, lit_107, lit_108, lit_109, lit_110, lit_111, lit_112, lit_113, lit_119, lit_120, lit_127, lit_128, lit_149, lit_150, lit_202, lit_240, lit_262, lit_894, lit_900, lit_999, lit_1000, lit_2000, lit_2662, lit_2663, lit_2695, lit_2701, lit_2702, lit_3602, lit_10806, nI_add, pk_mul, cl_nI, inb_nI, nI_leI, nI_ltI, nI_eq, nI_eq_m1, m1_eq_nI, nI_eq_m2, div_nI, rem_nI, Option.bind_some, b2_0, b2_1, isb_b2, if_true_, if_false_, ↓reduceIte, reduceCtorEq, not_true_eq_false, not_false_eq_true, bt_hasBit, ult, Nat.add_zero, false_and, true_and, and_true, and_false, Nat.reduceLeDiff, Nat.reduceEqDiff, Nat.reduceLT, Bool.toNat_true, Bool.toNat_false, decide_true, decide_false, Bool.not_true, Bool.not_false, Bool.false_and, Bool.true_and, Bool.and_true, Bool.and_false, Bool.or_false, Bool.true_or, Bool.or_true, Bool.false_or, b16, Nat.not_le.mpr hi, show ¬ 20 ≤ i by omega, b3, hq0, Nat.le_refl]
      · rw [if_neg (by omega), show i + 1 - 1 = i by omega]
      · rw [a3]
        funext x
        by_cases h2 : i ≤ x ∧ x < i - 1
        · omega
        · rw [if_neg h2, if_neg (by omega)]
    · have hne := hqne i hi hii
      have e1 : (nI (q i) = nI s) = False := by rw [nI_eq (by omega) (by omega)]; exact eq_false hne
      by_cases hlt : i ≤ i0
      · refine ⟨(nI (i + 1), nI (i + 1), wr M1 g 3 i (nI (q i))), ?_, wr M1 g 3 i (nI (q i)), ?_, ?_, fun j hj => by rw [wr_other _ _ _ _ _ (by omega)]; exact aj j hj, aF.tr (Fr_wr _ _ _ _ _)⟩
        · simp (disch := omega) only [↓ite_b2r, ↓ite_nb2r, ↓lit_m1, ↓lit_m2, lit_0, lit_1, lit_2, lit_3, lit_4, lit_5, lit_6, lit_7, lit_8, lit_9, lit_10, lit_11, lit_12, lit_13, lit_14, lit_15, lit_16, lit_17, lit_18, lit_19, lit_20, lit_21, lit_22, lit_23, lit_24, lit_25, lit_26, lit_27, lit_28, lit_29, lit_30, lit_31, lit_32, lit_33, lit_34, lit_35, lit_36, lit_40, lit_41, lit_42, lit_44, lit_48, lit_57, lit_59, lit_62, lit_63, lit_64, lit_82, lit_98, lit_99, lit_100, lit_101, lit_102, lit_103, lit_104, lit_105, lit_106, lit_107, lit_108, lit_109, lit_110, lit_111, lit_112, lit_113, lit_119, lit_120, lit_127, lit_128, lit_149, lit_150, lit_202, lit_240, lit_262, lit_894, lit_900, lit_999, lit_1000, lit_2000, lit_2662, lit_2663, lit_2695, lit_2701, lit_2702, lit_3602, lit_10806, nI_add, pk_mul, cl_nI, inb_nI, nI_leI, nI_ltI, nI_eq, nI_eq_m1, m1_eq_nI, nI_eq_m2, div_nI, rem_nI, Option.bind_some, b2_0, b2_1, isb_b2, if_true_, if_false_, ↓reduceIte, reduceCtorEq, not_true_eq_false, not_false_eq_true, bt_hasBit, ult, Nat.add_zero, false_and, true_and, and_true, and_false, Nat.reduceLeDiff, Nat.reduceEqDiff, Nat.reduceLT, Bool.toNat_true, Bool.toNat_false, decide_true, decide_false, Bool.not_true, Bool.not_false, Bool.false_and, Bool.true_and, Bool.and_true, Bool.and_false, Bool.or_false, Bool.true_or, Bool.or_true, Bool.false_or, b16, Nat.not_le.mpr hi, show ¬ 20 ≤ i by omega, b3, e1, hlt]
        · rw [if_pos (by omega)]
        · rw [wr_same, a3]
          funext x
          by_cases hx : x = i
          · rw [hx, upd_same, if_neg (by omega)]; exact v1.symm
          · rw [upd_other hx, if_neg (by omega), if_neg (by omega)]
      · refine ⟨(nI (i - 1 + 1), nI (i + 1), wr M1 g 3 (i - 1) (nI (q i))), ?_, wr M1 g 3 (i - 1) (nI (q i)), ?_, ?_, fun j hj => by rw [wr_other _ _ _ _ _ (by omega)]; exact aj j hj, aF.tr (Fr_wr _ _ _ _ _)⟩
        · simp (disch := omega) only [↓ite_b2r, ↓ite_nb2r, ↓lit_m1, ↓lit_m2, lit_0, lit_1, lit_2, lit_3, lit_4, lit_5, lit_6, lit_7, lit_8, lit_9, lit_10, lit_11, lit_12, lit_13, lit_14, lit_15, lit_16, lit_17, lit_18, lit_19, lit_20, lit_21, lit_22, lit_23, lit_24, lit_25, lit_26, lit_27, lit_28, lit_29, lit_30, lit_31, lit_32, lit_33, lit_34, lit_35, lit_36, lit_40, lit_41, lit_42, lit_44, lit_48, lit_57, lit_59, lit_62, lit_63, lit_64, lit_82, lit_98, lit_99, lit_100, lit_101, lit_102, lit_103, lit_104, lit_105, lit_106, lit_107, lit_108, lit_109, lit_110, lit_111, lit_112, lit_113, lit_119, lit_120, lit_127, lit_128, lit_149, lit_150, lit_202, lit_240, lit_262, lit_894, lit_900, lit_999, lit_1000, lit_2000, lit_2662, lit_2663, lit_2695, lit_2701, lit_2702, lit_3602, lit_10806, nI_add, pk_mul, cl_nI, inb_nI, nI_leI, nI_ltI, nI_eq, nI_eq_m1, m1_eq_nI, nI_eq_m2, div_nI, rem_nI, Option.bind_some, b2_0, b2_1, isb_b2, if_true_, if_false_, ↓reduceIte, reduceCtorEq, not_true_eq_false, not_false_eq_true, bt_hasBit, ult, Nat.add_zero, false_and, true_and, and_true, and_false, Nat.reduceLeDiff, Nat.reduceEqDiff, Nat.reduceLT, Bool.toNat_true, Bool.toNat_false, decide_true, decide_false, Bool.not_true, Bool.not_false, Bool.false_and, Bool.true_and, Bool.and_true, Bool.and_false, Bool.or_false, Bool.true_or, Bool.or_true, Bool.false_or, b16, Nat.not_le.mpr hi, show ¬ 20 ≤ i by omega, show ¬ 20 ≤ i - 1 by omega, b3, e1, hlt]
        · rw [if_neg (by omega), show i + 1 - 1 = i - 1 + 1 by omega]
        · rw [wr_same, a3]
          funext x
          by_cases hx : x = i - 1
          · rw [hx, upd_same, if_pos (by omega), show i - 1 + 1 = i by omega]; exact v1.symm
          · rw [upd_other hx]
            by_cases h2 : i0 ≤ x ∧ x < i - 1
            · rw [if_pos h2, if_pos (by omega)]
            · rw [if_neg h2, if_neg (by omega)]
  · obtain ⟨M1, rfl, a3, aj, aF⟩ := hσ
    show ∃ M', L_X7_move_14 g (nI s) (nI p) (n + 1) _ _ _ = some M' ∧ _
    have b16 : M1.1 g 1 6 = nI (manyS N) := by rw [aj 1 (by omega)]; exact h16
    obtain ⟨M2, e1, e2, e3⟩ := hfin M1 a3 aj aF
    refine ⟨M2, ?_, e2, e3⟩
    rw [L_X7_move_14]
    dsimp only
    rw [b16, if_pos (nI_leI (by omega) (by omega) |>.mpr (Nat.le_refl _)), if_neg (show ¬ manyS N ≤ i0 by omega)]
    exact e1
end MV
section KM
variable {k : Nat} {M : Mem}
end KM
