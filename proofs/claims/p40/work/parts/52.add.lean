/-! ===== the tree changes: in general; a section is added ===== -/
theorem WFa_tree {N R : Row} (hN : WFa N) (hR : WFt R) (h0 : R 0 = N 0) (h2 : eqR 202 2701 R N) (hl : ∀ k, k < 120 → isV R (82 + k) 1000) (hh : WFh R) (huc : ∀ c, c < 10 → ck N c = true → us R (sec N c) = true) (huq : ∀ k, k < wq N → us R (wse N k) = true) (hO : ∀ c c', c < 10 → c' < 10 → ck N c = true → ck N c' = true → Ov R (sec N c) (sec N c') = Ov N (sec N c) (sec N c')) : WFa R := by
  have hc : eqR 202 262 R N := h2.sub (by omega) (by omega)
  have hq : eqR 2662 2695 R N := h2.sub (by omega) (by omega)
  have hq8 := wq_le hN.1.2.2.2.1
  refine ⟨⟨hR, ⟨isV_cg h0 hN.1.2.1.1, fun c hc10 => ?_⟩, ⟨hl, fun k hk => isV_cg (h2 _ (by omega) (by omega)) (hN.1.2.2.1.2 k hk)⟩, ⟨isV_cg (h2 _ (by omega) (by omega)) hN.1.2.2.2.1.1, fun k hk => ?_, fun k k' hk hk' e => ?_⟩, WFu_cg h0 (h2.sub (by omega) (by omega)) hN.1.2.2.2.2.1, hh⟩, fun c c' a1 a2 a3 a4 a5 a6 => ?_⟩
  · obtain ⟨a1, a2, a3, a4, a5, a6⟩ := hN.1.2.1.2 c hc10
    refine ⟨isV_cg (h2 _ (by omega) (by omega)) a1, isV_cg (h2 _ (by omega) (by omega)) a2, isV_cg (h2 _ (by omega) (by omega)) a3, isV_cg (h2 _ (by omega) (by omega)) a4, fun hk => ?_, fun hk => ?_⟩
    · rw [ck_cg hc hc10] at hk
      obtain ⟨b1, b2, b3⟩ := a5 hk
      rw [sec_cg hc hc10, sh_cg hc hc10, hd_cg hc hc10]
      exact ⟨isV_cg (h2 _ (by omega) (by omega)) b1, huc c hc10 hk, b3⟩
    · rw [hel_cg hc hc10] at hk
      rw [h0, h2 _ (by omega) (by omega)]
      exact a6 hk
  · rw [wq_cg hq] at hk
    obtain ⟨a1, a2, a3, a4, a5, a6⟩ := hN.1.2.2.2.1.2.1 k hk
    rw [wse_cg hq (by omega), wti_cg hq (by omega)]
    exact ⟨isV_cg (h2 _ (by omega) (by omega)) a1, isV_cg (h2 _ (by omega) (by omega)) a2, huq k hk, isV_cg (h2 _ (by omega) (by omega)) a4, a5, isV_cg (h2 _ (by omega) (by omega)) a6⟩
  · rw [wq_cg hq] at hk hk'
    rw [wus_cg hq (by omega), wus_cg hq (by omega)] at e
    exact hN.1.2.2.2.1.2.2 k k' hk hk' e
  · rw [hel_cg hc a1] at a4
    rw [hel_cg hc a2] at a5
    rw [sec_cg hc a1, sec_cg hc a2, hO c c' a1 a2 (hel_ck a4) (hel_ck a5)] at a6
    rw [sh_cg hc a1, sh_cg hc a2]
    exact hN.2 c c' a1 a2 a3 a4 a5 a6
theorem RD_tree {D D' : Dk} {N R : Row} (hN : WFa N) (h0 : R 0 = N 0) (h2 : eqR 202 2701 R N) (ht : RDt D' R) (hs : RDs D' R) (hh : RDh D' R) (hD : ∀ j, j = 0 ∨ j = 8 ∨ j = 9 ∨ j = 10 ∨ j = 11 ∨ j = 12 ∨ j = 13 ∨ j = 16 → D' j = D j) (hcp : ∀ c s', c < 10 → s' < 20 → ck N c = true → us R s' = true → An R s' (sec N c) = true → us N s' = true ∧ An N s' (sec N c) = true) (h : RD D N) : RD D' R := by
  obtain ⟨a1, a2, a3, a4, a5, a6, a7⟩ := h
  have hc : eqR 202 262 R N := h2.sub (by omega) (by omega)
  refine ⟨ht, hs, RDc_D (hD 8 (by omega)) (hD 9 (by omega)) (RDc_cg hc a3), fun c s' l hc10 hs' hl hk hu ha => ?_, RDq_D (hD 12 (by omega)) (hD 13 (by omega)) (RDq_cg (h2.sub (by omega) (by omega)) hN.1.2.2.2.1 a5), hh, RDu_D (hD 0 (by omega)) (hD 16 (by omega)) (RDu_cg h0 (h2.sub (by omega) (by omega)) a7)⟩
  rw [ck_cg hc hc10] at hk
  rw [sec_cg hc hc10] at ha
  obtain ⟨b1, b2⟩ := hcp c s' hc10 hs' hk hu ha
  rw [hD 10 (by omega), hD 11 (by omega), h2 _ (by omega) (by omega), h2 (262 + 240 * c + 12 * s' + 2 * l + 1) (by omega) (by omega)]
  exact a4 c s' l hc10 hs' hl hk b1 b2
/-- the line above of sections that stay is as it was -/
theorem An_ext {N R : Row} (hN : WFt N) (hR : WFt R) (P : Nat → Prop) (h0 : P 0) (hu : ∀ t, 0 < t → t < 20 → us N t = true → P t → us R t = true ∧ pa R t = pa N t ∧ P (pa N t)) {u : Nat} : ∀ t, t < 20 → us N t = true → P t → An R t u = An N t u := by
  intro t ht hut
  refine up_ind hN (fun t => P t → An R t u = An N t u) (fun _ => by rw [An_0, An_0]) (fun t h1 h2 h3 ih hp => ?_) t ht hut
  obtain ⟨a, b, c⟩ := hu t h1 h2 h3 hp
  rw [An_s hN h1 h2 h3, An_s hR h1 h2 a, b, ih c]
def addS (N : Row) (p s : Nat) : Row := fun k => if 82 + 6 * s ≤ k ∧ k < 82 + 6 * s + 6 then nI 0 else upd (upd (upd (upd (upd N (2 + s) (nI 1)) (22 + s) (nI p)) (42 + s) (N 1)) 1 (N 1 + nI 1)) (62 + s) (nI 0) k
def freS (N : Row) : Nat := fst (us N) 20 0
section AD
variable {N : Row} {p s : Nat}
theorem fre_spec (h : manyS N < 20) : freS N < 20 ∧ us N (freS N) = false ∧ ∀ j, j < freS N → us N j = true := by
  obtain ⟨i, h1, h2⟩ := cntN_free (p := us N) h
  obtain ⟨a, b, c⟩ := fst_spec (p := us N) 20 0 ⟨i, by omega, by omega, h2⟩
  exact ⟨by unfold freS; omega, b, fun j hj => c j (by omega) hj⟩
theorem addS_o {k : Nat} (h : ¬ (82 + 6 * s ≤ k ∧ k < 82 + 6 * s + 6)) (h1 : k ≠ 2 + s) (h2 : k ≠ 22 + s) (h3 : k ≠ 42 + s) (h4 : k ≠ 1) (h5 : k ≠ 62 + s) : addS N p s k = N k := by
  unfold addS
  rw [if_neg h, upd_other h5, upd_other h4, upd_other h3, upd_other h2, upd_other h1]
theorem addS_us (hs : s < 20) {t : Nat} (ht : t < 20) : us (addS N p s) t = (us N t || decide (t = s)) := by
  unfold us
  by_cases h : t = s
  · subst h
    unfold addS
    rw [if_neg (by omega), upd_other (by omega), upd_other (by omega), upd_other (by omega), upd_other (by omega), upd_same]
    simp
  · rw [addS_o (by omega) (by omega) (by omega) (by omega) (by omega) (by omega), decide_eq_false h, Bool.or_false]
theorem addS_p (hs : s < 20) : addS N p s (22 + s) = nI p := by
  unfold addS
  rw [if_neg (by omega), upd_other (by omega), upd_other (by omega), upd_other (by omega), upd_same]
theorem addS_pl (hs : s < 20) : addS N p s (42 + s) = N 1 := by
  unfold addS
  rw [if_neg (by omega), upd_other (by omega), upd_other (by omega), upd_same]
theorem addS_1 (hs : s < 20) : addS N p s 1 = N 1 + nI 1 := by
  unfold addS
  rw [if_neg (by omega), upd_other (by omega), upd_same]
theorem addS_v (hs : s < 20) : addS N p s (62 + s) = nI 0 := by
  unfold addS
  rw [if_neg (by omega), upd_same]
theorem WFt_add (hN : WFt N) (hs : s < 20) (hf : us N s = false) (hp : p < 20) (hup : us N p = true) (hb : cl (N 1) + 1 < 1073741824) : WFt (addS N p s) := by
  have hs0 : s ≠ 0 := fun e => by rw [e, us_0 hN] at hf; cases hf
  obtain ⟨r, r1, r2, r3⟩ := rank20 hN
  have hpa : ∀ t, t < 20 → t ≠ s → pa (addS N p s) t = pa N t := fun t ht h => by unfold pa; rw [addS_o (by omega) (by omega) (by omega) (by omega) (by omega) (by omega)]
  have hpas : pa (addS N p s) s = p := by unfold pa; rw [addS_p hs, cl_nI (by omega)]
  have h1 := hN.2.2.2.2.2.1
  have e1 : addS N p s 1 = nI (cl (N 1) + 1) := by rw [addS_1 hs, h1.1, nI_add, cl_nI (by omega)]
  have c1 : cl (addS N p s 1) = cl (N 1) + 1 := by rw [e1, cl_nI (by omega)]
  have hold : ∀ t, t < 20 → t ≠ s → us (addS N p s) t = true → us N t = true := fun t ht h hu => by
    rw [addS_us hs ht, decide_eq_false h, Bool.or_false] at hu
    exact hu
  refine ⟨fun t ht => ?_, ?_, ?_, fun t h0 ht hu => ?_, ⟨fun t => if t = s then r p + 1 else r t, fun t h0 ht hu => ?_⟩, ?_, fun t h0 ht hu => ?_, fun t t' a b c a' b' c' e => ?_⟩
  · by_cases h : t = s
    · subst h
      exact Or.inr (us_t.mp (by rw [addS_us hs ht]; simp))
    · rw [addS_o (by omega) (by omega) (by omega) (by omega) (by omega) (by omega)]
      exact hN.1 t ht
  · rw [addS_o (by omega) (by omega) (by omega) (by omega) (by omega) (by omega)]; exact hN.2.1
  · rw [addS_o (by omega) (by omega) (by omega) (by omega) (by omega) (by omega)]; exact hN.2.2.1
  · by_cases h : t = s
    · subst h
      rw [hpas, addS_p hs, addS_us hs hp, hup]
      exact ⟨rfl, hp, rfl⟩
    · obtain ⟨a1, a2, a3⟩ := hN.2.2.2.1 t h0 ht (hold t ht h hu)
      rw [hpa t ht h, addS_o (by omega) (by omega) (by omega) (by omega) (by omega) (by omega), addS_us hs a2, a3]
      exact ⟨a1, a2, rfl⟩
  · by_cases h : t = s
    · subst h
      dsimp only
      rw [hpas, if_pos rfl, if_neg (fun e => by rw [e, hf] at hup; cases hup)]
      omega
    · obtain ⟨a1, a2, a3⟩ := hN.2.2.2.1 t h0 ht (hold t ht h hu)
      dsimp only
      rw [hpa t ht h, if_neg h, if_neg (fun e => by rw [e, hf] at a3; cases a3)]
      exact r2 t h0 ht (hold t ht h hu)
  · unfold isV
    rw [c1]
    exact ⟨e1, hb⟩
  · unfold isV
    rw [c1]
    by_cases h : t = s
    · subst h
      rw [addS_pl hs]
      exact ⟨h1.1, by omega⟩
    · rw [addS_o (by omega) (by omega) (by omega) (by omega) (by omega) (by omega)]
      obtain ⟨b1, b2⟩ := hN.2.2.2.2.2.2.1 t h0 ht (hold t ht h hu)
      exact ⟨b1, by omega⟩
  · have hpl : ∀ t, 0 < t → t < 20 → t ≠ s → us (addS N p s) t = true → addS N p s (42 + t) = N (42 + t) ∧ cl (N (42 + t)) < cl (N 1) := fun t h0 ht h hu => ⟨addS_o (by omega) (by omega) (by omega) (by omega) (by omega) (by omega), (hN.2.2.2.2.2.2.1 t h0 ht (hold t ht h hu)).2⟩
    by_cases h : t = s
    · by_cases h' : t' = s
      · rw [h, h']
      · obtain ⟨b1, b2⟩ := hpl t' a' b' h' c'
        rw [h, addS_pl hs, b1] at e
        rw [← e] at b2
        omega
    · by_cases h' : t' = s
      · obtain ⟨b1, b2⟩ := hpl t a b h c
        rw [h', addS_pl hs, b1] at e
        rw [e] at b2
        omega
      · rw [(hpl t a b h c).1, (hpl t' a' b' h' c').1] at e
        exact hN.2.2.2.2.2.2.2 t t' a b (hold t b h c) a' b' (hold t' b' h' c') e
theorem An_add (hN : WFt N) (hR : WFt (addS N p s)) (hs : s < 20) (hf : us N s = false) {t u : Nat} (ht : t < 20) (hu : us N t = true) : An (addS N p s) t u = An N t u := by
  refine An_ext hN hR (fun _ => True) trivial (fun t h0 ht hut _ => ⟨by rw [addS_us hs ht, hut]; rfl, ?_, trivial⟩) t ht hu trivial
  have h : t ≠ s := fun e => by rw [e, hf] at hut; cases hut
  unfold pa
  rw [addS_o (by omega) (by omega) (by omega) (by omega) (by omega) (by omega)]
theorem addS_hi (hs : s < 20) : eqR 202 3602 (addS N p s) N := fun k h _ => addS_o (by omega) (by omega) (by omega) (by omega) (by omega) (by omega)
theorem WFa_add (hN : WFa N) (hs : s < 20) (hf : us N s = false) (hp : p < 20) (hup : us N p = true) (hb : cl (N 1) + 1 < 1073741824) : WFa (addS N p s) := by
  have hR := WFt_add hN.1.1 hs hf hp hup hb
  have hc := hN.1.2.1
  refine WFa_tree hN hR (addS_o (by omega) (by omega) (by omega) (by omega) (by omega) (by omega)) ((addS_hi hs).sub (by omega) (by omega)) (fun k hk => ?_) (WFh_cg ((addS_hi hs).sub (by omega) (by omega)) hN.1.2.2.2.2.2) (fun c hc10 hk => ?_) (fun k hk => ?_) (fun c c' h1 h2 k1 k2 => ?_)
  · by_cases h : 82 + 6 * s ≤ 82 + k ∧ 82 + k < 82 + 6 * s + 6
    · unfold isV addS
      rw [if_pos h, cl_nI (by omega)]
      exact ⟨rfl, by omega⟩
    · exact isV_cg (addS_o h (by omega) (by omega) (by omega) (by omega) (by omega)) (hN.1.2.2.1.1 k hk)
  · rw [addS_us hs (sec_lt hc hc10 hk), sec_us hc hc10 hk]; rfl
  · obtain ⟨-, b, c⟩ := wse_eq hN.1.2.2.2.1 hk
    rw [addS_us hs b, c]; rfl
  · unfold Ov
    rw [An_add hN.1.1 hR hs hf (sec_lt hc h1 k1) (sec_us hc h1 k1), An_add hN.1.1 hR hs hf (sec_lt hc h2 k2) (sec_us hc h2 k2)]
theorem manyS_add (hs : s < 20) (hf : us N s = false) : manyS (addS N p s) = manyS N + 1 := by
  unfold manyS
  rw [cnt_del (f := us (addS N p s)) (a := s) hs, addS_us hs hs, decide_eq_true rfl, Bool.or_true]
  congr 1
  refine cntN_c fun t ht => ?_
  rw [addS_us hs ht]
  by_cases h : t = s
  · subst h; rw [hf]; simp
  · rw [decide_eq_false h]; simp
theorem c_lowestFreeT {M : Mem} {g : Nat} (h : RDt (M.1 g) N) (hN : WFt N) (hm : manyS N < 20) : f_X7_lowestFree g M = some (nI (freS N)) := by
  obtain ⟨n1, n2, n3⟩ := fre_spec hm
  unfold f_X7_lowestFree
  generalize freS N = f at n1 n2 n3
  refine loop (fun n (σ : Int32) => L_X7_lowestFree_2 g M n σ) (fun i => nI i) f (fun n i hi => ?_) (fun n => ?_) FU (FU_lt (by omega))
  · show L_X7_lowestFree_2 g M (n + 1) _ = L_X7_lowestFree_2 g M n _
    have hh := c_hasN h hN (s := i) (by omega)
    have e := h.1 i (by omega) (n3 i hi)
    have hne : (N (22 + i) = mII) = False := by
      refine eq_false ?_
      by_cases h0 : i = 0
      · subst h0
        rw [show N (22 + 0) = mI from hN.2.2.1]
        decide
      · obtain ⟨e1, e2, e3⟩ := hN.2.2.2.1 i (by omega) (by omega) (n3 i hi)
        rw [e1]
        intro e4
        rw [nI_eq_m2 (by omega)] at e4
        exact e4
    rw [L_X7_lowestFree_2]
    simp (disch := omega) only [↓ite_b2r, ↓ite_nb2r, ↓lit_m1, ↓lit_m2, lit_0, lit_1, lit_2, lit_3, lit_4, lit_5, lit_6, lit_7, lit_8, lit_9, lit_10, lit_11, lit_12, lit_13, lit_14, lit_15, lit_16, lit_17, lit_18, lit_19, lit_20, lit_21, lit_22, lit_23, lit_24, lit_25, lit_26, lit_27, lit_28, lit_29, lit_30, lit_31, lit_32, lit_33, lit_34, lit_35, lit_36, lit_40, lit_41, lit_42, lit_44, lit_48, lit_57, lit_59, lit_62, lit_63, lit_64, lit_82, lit_98, lit_99, lit_100, lit_101, lit_102, lit_103, lit_104, lit_105, lit_106, lit_107, lit_108, lit_109, lit_110, lit_111, lit_112, lit_113, lit_119, lit_120, lit_127, lit_128, lit_149, lit_150, lit_202, lit_240, lit_262, lit_894, lit_900, lit_999, lit_1000, lit_2000, lit_2662, lit_2663, lit_2695, lit_2701, lit_2702, lit_3602, lit_10806, nI_add, pk_mul, cl_nI, inb_nI, nI_leI, nI_ltI, nI_eq, nI_eq_m1, m1_eq_nI, nI_eq_m2, div_nI, rem_nI, Option.bind_some, b2_0, b2_1, isb_b2, if_true_, if_false_, ↓reduceIte, reduceCtorEq, not_true_eq_false, not_false_eq_true, bt_hasBit, ult, Nat.add_zero, false_and, true_and, and_true, and_false, Nat.reduceLeDiff, Nat.reduceEqDiff, Nat.reduceLT, Bool.toNat_true, Bool.toNat_false, decide_true, decide_false, Bool.not_true, Bool.not_false, Bool.false_and, Bool.true_and, Bool.and_true, Bool.and_false, Bool.or_false, Bool.true_or, Bool.or_true, Bool.false_or, show ¬ 20 ≤ i by omega, e, hne]
  · show L_X7_lowestFree_2 g M (n + 1) _ = _
    have e := h.2.1 f n1 n2
    rw [L_X7_lowestFree_2]
    simp (disch := omega) only [↓ite_b2r, ↓ite_nb2r, ↓lit_m1, ↓lit_m2, lit_0, lit_1, lit_2, lit_3, lit_4, lit_5, lit_6, lit_7, lit_8, lit_9, lit_10, lit_11, lit_12, lit_13, lit_14, lit_15, lit_16, lit_17, lit_18, lit_19, lit_20, lit_21, lit_22, lit_23, lit_24, lit_25, lit_26, lit_27, lit_28, lit_29, lit_30, lit_31, lit_32, lit_33, lit_34, lit_35, lit_36, lit_40, lit_41, lit_42, lit_44, lit_48, lit_57, lit_59, lit_62, lit_63, lit_64, lit_82, lit_98, lit_99, lit_100, lit_101, lit_102, lit_103, lit_104, lit_105, lit_106, lit_107, lit_108, lit_109, lit_110, lit_111, lit_112, lit_113, lit_119, lit_120, lit_127, lit_128, lit_149, lit_150, lit_202, lit_240, lit_262, lit_894, lit_900, lit_999, lit_1000, lit_2000, lit_2662, lit_2663, lit_2695, lit_2701, lit_2702, lit_3602, lit_10806, nI_add, pk_mul, cl_nI, inb_nI, nI_leI, nI_ltI, nI_eq, nI_eq_m1, m1_eq_nI, nI_eq_m2, div_nI, rem_nI, Option.bind_some, b2_0, b2_1, isb_b2, if_true_, if_false_, ↓reduceIte, reduceCtorEq, not_true_eq_false, not_false_eq_true, bt_hasBit, ult, Nat.add_zero, false_and, true_and, and_true, and_false, Nat.reduceLeDiff, Nat.reduceEqDiff, Nat.reduceLT, Bool.toNat_true, Bool.toNat_false, decide_true, decide_false, Bool.not_true, Bool.not_false, Bool.false_and, Bool.true_and, Bool.and_true, Bool.and_false, Bool.or_false, Bool.true_or, Bool.or_true, Bool.false_or, show ¬ 20 ≤ f by omega, e]
theorem c_add_ {M : Mem} {g : Nat} (hN : WFa N) (h : RD (M.1 g) N) (hm : manyS N < 20) (hp : p < 20) (hup : us N p = true) (hcov : Cov N p = false) (hb : cl (N 1) + 1 < 1073741824) : ∃ M', f_X7_add g (nI p) M = some (nI (freS N), M') ∧ RD (M'.1 g) (addS N p (freS N)) ∧ Fr g M M' := by
  obtain ⟨hs, hf, -⟩ := fre_spec hm
  have hlf := c_lowestFreeT h.1 hN.1.1 hm
  generalize freS N = s at hs hf hlf ⊢
  have hR := WFt_add hN.1.1 hs hf hp hup hb
  have h16 : M.1 g 1 6 = nI (manyS N) := h.2.1.1
  unfold f_X7_add
  rw [hlf, Option.bind_some, h16, show f_X8_isWithin (nI s) 0 19 = _ from c_within (nI s) 19 (by decide), show f_X8_isWithin (nI (manyS N)) 0 19 = _ from c_within (nI (manyS N)) 19 (by decide), inR_nI (by omega) (by decide), inR_nI (by omega) (by decide), decide_eq_true (show s < 19 + 1 by omega), decide_eq_true (show manyS N < 19 + 1 by omega), if_neg (show ¬ b2 true = 0 by decide), if_neg (show ¬ b2 true = 0 by decide)]
  simp (disch := omega) only [↓ite_b2r, ↓ite_nb2r, ↓lit_m1, ↓lit_m2, lit_0, lit_1, lit_2, lit_3, lit_4, lit_5, lit_6, lit_7, lit_8, lit_9, lit_10, lit_11, lit_12, lit_13, lit_14, lit_15, lit_16, lit_17, lit_18, lit_19, lit_20, lit_21, lit_22, lit_23, lit_24, lit_25, lit_26, lit_27, lit_28, lit_29, lit_30, lit_31, lit_32, lit_33, lit_34, lit_35, lit_36, lit_40, lit_41, lit_42, lit_44, lit_48, lit_57, lit_59, lit_62, lit_63, lit_64, lit_82, lit_98, lit_99, lit_100, lit_101, lit_102, lit_103, lit_104, lit_105, lit_106, lit_107, lit_108, lit_109, lit_110, lit_111, lit_112, lit_113, lit_119, lit_120, lit_127, lit_128, lit_149, lit_150, lit_202, lit_240, lit_262, lit_894, lit_900, lit_999, lit_1000, lit_2000, lit_2662, lit_2663, lit_2695, lit_2701, lit_2702, lit_3602, lit_10806, nI_add, pk_mul, cl_nI, inb_nI, nI_leI, nI_ltI, nI_eq, nI_eq_m1, m1_eq_nI, nI_eq_m2, div_nI, rem_nI, Option.bind_some, b2_0, b2_1, isb_b2, if_true_, if_false_, ↓reduceIte, reduceCtorEq, not_true_eq_false, not_false_eq_true, bt_hasBit, ult, Nat.add_zero, false_and, true_and, and_true, and_false, Nat.reduceLeDiff, Nat.reduceEqDiff, Nat.reduceLT, Bool.toNat_true, Bool.toNat_false, decide_true, decide_false, Bool.not_true, Bool.not_false, Bool.false_and, Bool.true_and, Bool.and_true, Bool.and_false, Bool.or_false, Bool.true_or, Bool.or_true, Bool.false_or, show ¬ 20 ≤ manyS N by omega, Nat.not_lt_zero, hm]
  have main := loopE (fun n (σ : Int32 × Mem) => L_X7_add_46 g (nI s) n σ.1 σ.2) (fun l σ => ∃ M', σ = (nI l, M') ∧ M'.1 g 2 = upd (M.1 g 2) s (nI p) ∧ M'.1 g 4 = upd (M.1 g 4) s (nI 0) ∧ (∀ k, k < 120 → M'.1 g 5 k = if 6 * s ≤ k ∧ k < 6 * s + l then nI 0 else M.1 g 5 k) ∧ (∀ j, j ≠ 2 → j ≠ 4 → j ≠ 5 → M'.1 g j = M.1 g j) ∧ Fr g M M') (P := fun q => q.1 = nI s ∧ RD (q.2.1 g) (addS N p s) ∧ Fr g M q.2) 6 (fun n l σ hl hσ => ?_) (fun n σ hσ => ?_) FU (by decide) (nI 0, wr (wr M g 2 s (nI p)) g 4 s (nI 0)) ⟨_, rfl, ?_, ?_, fun k hk => ?_, fun j h1 h2 h3 => ?_, (Fr_wr _ _ _ _ _).tr (Fr_wr _ _ _ _ _)⟩
  · obtain ⟨b, h1, h2, h3, h4⟩ := main
    exact ⟨b.2, by rw [show (nI s, b.2) = b from Prod.ext h2.symm rfl]; exact h1, h3, h4⟩
  · obtain ⟨M1, rfl, a1, a2, a3, a4, a5⟩ := hσ
    show ∃ s', L_X7_add_46 g (nI s) (n + 1) _ _ = L_X7_add_46 g (nI s) n _ _ ∧ _
    refine ⟨(nI (l + 1), wr M1 g 5 (6 * s + l) (nI 0)), ?_, _, rfl, ?_, ?_, fun k hk => ?_, fun j h1 h2 h3 => ?_, a5.tr (Fr_wr _ _ _ _ _)⟩
    · rw [L_X7_add_46]
      unfold f_X8_cellOf
      simp (disch := omega) only [↓ite_b2r, ↓ite_nb2r, ↓lit_m1, ↓lit_m2, lit_0, lit_1, lit_2, lit_3, lit_4, lit_5, lit_6, lit_7, lit_8, lit_9, lit_10, lit_11, lit_12, lit_13, lit_14, lit_15, lit_16, lit_17, lit_18, lit_19, lit_20, lit_21, lit_22, lit_23, lit_24, lit_25, lit_26, lit_27, lit_28, lit_29, lit_30, lit_31, lit_32, lit_33, lit_34, lit_35, lit_36, lit_40, lit_41, lit_42, lit_44, lit_48, lit_57, lit_59, lit_62, lit_63, lit_64, lit_82, lit_98, lit_99, lit_100, lit_101, lit_102, lit_103, lit_104, lit_105, lit_106, lit_107, lit_108, lit_109, lit_110, lit_111, lit_112, lit_113, lit_119, lit_120, lit_127, lit_128, lit_149, lit_150, lit_202, lit_240, lit_262, lit_894, lit_900, lit_999, lit_1000, lit_2000, lit_2662, lit_2663, lit_2695, lit_2701, lit_2702, lit_3602, lit_10806, nI_add, pk_mul, cl_nI, inb_nI, nI_leI, nI_ltI, nI_eq, nI_eq_m1, m1_eq_nI, nI_eq_m2, div_nI, rem_nI, Option.bind_some, b2_0, b2_1, isb_b2, if_true_, if_false_, ↓reduceIte, reduceCtorEq, not_true_eq_false, not_false_eq_true, bt_hasBit, ult, Nat.add_zero, false_and, true_and, and_true, and_false, Nat.reduceLeDiff, Nat.reduceEqDiff, Nat.reduceLT, Bool.toNat_true, Bool.toNat_false, decide_true, decide_false, Bool.not_true, Bool.not_false, Bool.false_and, Bool.true_and, Bool.and_true, Bool.and_false, Bool.or_false, Bool.true_or, Bool.or_true, Bool.false_or, Nat.not_le.mpr hl, Nat.mul_comm s 6, c_setValue]
    · rw [wr_other _ _ _ _ _ (by omega)]; exact a1
    · rw [wr_other _ _ _ _ _ (by omega)]; exact a2
    · rw [wr_same]
      by_cases hkl : k = 6 * s + l
      · subst hkl; rw [upd_same, if_pos (by omega)]
      · rw [upd_other hkl, a3 k hk]
        by_cases h2 : 6 * s ≤ k ∧ k < 6 * s + l
        · rw [if_pos h2, if_pos (by omega)]
        · rw [if_neg h2, if_neg (by omega)]
    · rw [wr_other _ _ _ _ _ (by omega)]; exact a4 j h1 h2 h3
  · obtain ⟨M1, rfl, a1, a2, a3, a4, a5⟩ := hσ
    show ∃ b, L_X7_add_46 g (nI s) (n + 1) _ _ = some b ∧ _
    have b16 : M1.1 g 1 6 = nI (manyS N) := by rw [a4 1 (by omega) (by omega) (by omega)]; exact h16
    have e16 : (wr M1 g 3 (manyS N) (nI s)).1 g 1 6 = nI (manyS N) := by rw [wr_other _ _ _ _ _ (by omega)]; exact b16
    generalize hM2 : wr (wr M1 g 3 (manyS N) (nI s)) g 1 6 (nI (manyS N + 1)) = M2
    have k1 : M2.1 g 1 6 = nI (manyS N + 1) := by rw [← hM2, wr_same, upd_same]
    have k3 : M2.1 g 3 = upd (M.1 g 3) (manyS N) (nI s) := by rw [← hM2, wr_other _ _ _ _ _ (by omega), wr_same, a4 3 (by omega) (by omega) (by omega)]
    have kj : ∀ j, j ≠ 1 → j ≠ 3 → M2.1 g j = M1.1 g j := fun j h1 h2 => by rw [← hM2, wr_other _ _ _ _ _ (by omega), wr_other _ _ _ _ _ (by omega)]
    have kF : Fr g M M2 := by rw [← hM2]; exact (a5.tr (Fr_wr _ _ _ _ _)).tr (Fr_wr _ _ _ _ _)
    have p2 : ∀ t, t < 20 → us (addS N p s) t = true → M2.1 g 2 t = addS N p s (22 + t) := fun t ht hu => by
      rw [kj 2 (by omega) (by omega), a1]
      by_cases hts : t = s
      · subst hts; rw [upd_same, addS_p hs]
      · rw [addS_us hs ht, decide_eq_false hts, Bool.or_false] at hu
        rw [upd_other hts, addS_o (by omega) (by omega) (by omega) (by omega) (by omega) (by omega)]
        exact h.1.1 t ht hu
    have p2n : ∀ t, t < 20 → us (addS N p s) t = false → M2.1 g 2 t = mII := fun t ht hu => by
      rw [addS_us hs ht, Bool.or_eq_false_iff, decide_eq_false_iff_not] at hu
      rw [kj 2 (by omega) (by omega), a1, upd_other hu.2]
      exact h.1.2.1 t ht hu.1
    obtain ⟨M3, f1, f2, f3, f4, f5⟩ := c_findOverlaps (M := M2) (g := g) hR p2 p2n
    refine ⟨(nI s, M3), ?_, rfl, ?_, kF.tr f5⟩
    · rw [L_X7_add_46]
      simp (disch := omega) only [↓ite_b2r, ↓ite_nb2r, ↓lit_m1, ↓lit_m2, lit_0, lit_1, lit_2, lit_3, lit_4, lit_5, lit_6, lit_7, lit_8, lit_9, lit_10, lit_11, lit_12, lit_13, lit_14, lit_15, lit_16, lit_17, lit_18, lit_19, lit_20, lit_21, lit_22, lit_23, lit_24, lit_25, lit_26, lit_27, lit_28, lit_29, lit_30, lit_31, lit_32, lit_33, lit_34, lit_35, lit_36, lit_40, lit_41, lit_42, lit_44, lit_48, lit_57, lit_59, lit_62, lit_63, lit_64, lit_82, lit_98, lit_99, lit_100, lit_101, lit_102, lit_103, lit_104, lit_105, lit_106, lit_107, lit_108, lit_109, lit_110, lit_111, lit_112, lit_113, lit_119, lit_120, lit_127, lit_128, lit_149, lit_150, lit_202, lit_240, lit_262, lit_894, lit_900, lit_999, lit_1000, lit_2000, lit_2662, lit_2663, lit_2695, lit_2701, lit_2702, lit_3602, lit_10806, nI_add, pk_mul, cl_nI, inb_nI, nI_leI, nI_ltI, nI_eq, nI_eq_m1, m1_eq_nI, nI_eq_m2, div_nI, rem_nI, Option.bind_some, b2_0, b2_1, isb_b2, if_true_, if_false_, ↓reduceIte, reduceCtorEq, not_true_eq_false, not_false_eq_true, bt_hasBit, ult, Nat.add_zero, false_and, true_and, and_true, and_false, Nat.reduceLeDiff, Nat.reduceEqDiff, Nat.reduceLT, Bool.toNat_true, Bool.toNat_false, decide_true, decide_false, Bool.not_true, Bool.not_false, Bool.false_and, Bool.true_and, Bool.and_true, Bool.and_false, Bool.or_false, Bool.true_or, Bool.or_true, Bool.false_or, Nat.le_refl, b16, e16, hM2, f1]
    · have hj : ∀ j, j ≠ 1 → j ≠ 3 → j ≠ 6 → j ≠ 7 → M3.1 g j = M1.1 g j := fun j h1 h2 h3 h4 => (f4 j h3 h4).trans (kj j h1 h2)
      refine RD_tree (D := M.1 g) hN (addS_o (by omega) (by omega) (by omega) (by omega) (by omega) (by omega)) ((addS_hi hs).sub (by omega) (by omega)) ⟨fun t ht hu => ?_, fun t ht hu => ?_, fun t ht hu => ?_, fun t l ht hl hu => ?_, f2, f3⟩ ⟨?_, ?_⟩ ?_ (fun j hjj => ?_) (fun c s' hc hs' hk hu ha => ?_) h
      · rw [f4 2 (by omega) (by omega)]; exact p2 t ht hu
      · rw [f4 2 (by omega) (by omega)]; exact p2n t ht hu
      · rw [hj 4 (by omega) (by omega) (by omega) (by omega), a2]
        by_cases hts : t = s
        · subst hts; rw [upd_same, addS_v hs]
        · rw [addS_us hs ht, decide_eq_false hts, Bool.or_false] at hu
          rw [upd_other hts, addS_o (by omega) (by omega) (by omega) (by omega) (by omega) (by omega)]
          exact h.1.2.2.1 t ht hu
      · rw [hj 5 (by omega) (by omega) (by omega) (by omega), a3 _ (by omega)]
        by_cases hts : t = s
        · subst hts
          rw [if_pos (by omega)]
          unfold addS
          rw [if_pos (by omega)]
        · rw [addS_us hs ht, decide_eq_false hts, Bool.or_false] at hu
          rw [if_neg (by omega), addS_o (by omega) (by omega) (by omega) (by omega) (by omega) (by omega)]
          exact h.1.2.2.2.1 t l ht hl hu
      · rw [f4 1 (by omega) (by omega), k1, manyS_add hs hf]
      · obtain ⟨-, q, q1, q2, q3, q4⟩ := h.2.1
        rw [manyS_add hs hf]
        refine ⟨fun i => if i = manyS N then s else q i, fun i hi => ?_, fun t ht hu => ?_, fun i j hij hjm => ?_, fun i j hij hjm h1 h2 => ?_⟩
        · dsimp only
          rw [f4 3 (by omega) (by omega), k3]
          by_cases him : i = manyS N
          · subst him
            rw [upd_same, if_pos rfl, addS_us hs hs, decide_eq_true rfl, Bool.or_true]
            exact ⟨rfl, hs, rfl⟩
          · obtain ⟨b1, b2', b3⟩ := q1 i (by omega)
            rw [upd_other him, if_neg him, addS_us hs b2', b3]
            exact ⟨b1, b2', rfl⟩
        · by_cases hts : t = s
          · exact ⟨manyS N, by omega, by dsimp only; rw [if_pos rfl, hts]⟩
          · rw [addS_us hs ht, decide_eq_false hts, Bool.or_false] at hu
            obtain ⟨i, b1, b2'⟩ := q2 t ht hu
            exact ⟨i, by omega, by dsimp only; rw [if_neg (by omega)]; exact b2'⟩
        · dsimp only
          rw [if_neg (by omega)]
          by_cases hjn : j = manyS N
          · rw [if_pos hjn]
            intro e
            have := (q1 i (by omega)).2.2
            rw [e, hf] at this
            cases this
          · rw [if_neg hjn]
            exact q3 i j hij (by omega)
        · dsimp only at h1 h2 ⊢
          rw [if_neg (show ¬ i = manyS N by omega)] at h1 ⊢
          obtain ⟨b1, b2', b3⟩ := q1 i (by omega)
          have hne : q i ≠ s := fun e => by rw [e, hf] at b3; cases b3
          rw [addS_o (k := 42 + q i) (by omega) (by omega) (by omega) (by omega) (by omega) (by omega)]
          by_cases hjn : j = manyS N
          · rw [if_pos hjn, addS_pl hs]
            exact (place_eq hN.1.1 (by omega) b2' b3).2
          · rw [if_neg hjn] at h2 ⊢
            obtain ⟨d1, d2, d3⟩ := q1 j (by omega)
            have hne2 : q j ≠ s := fun e => by rw [e, hf] at d3; cases d3
            rw [addS_o (k := 42 + q j) (by omega) (by omega) (by omega) (by omega) (by omega) (by omega)]
            exact q4 i j hij (by omega) h1 h2
      · exact RDh_D ((hj 14 (by omega) (by omega) (by omega) (by omega)).trans (a4 14 (by omega) (by omega) (by omega))) ((hj 15 (by omega) (by omega) (by omega) (by omega)).trans (a4 15 (by omega) (by omega) (by omega))) (RDh_cg ((addS_hi hs).sub (by omega) (by omega)) hN.1.2.2.2.2.2 h.2.2.2.2.2.1)
      · rw [hj j (by omega) (by omega) (by omega) (by omega), a4 j (by omega) (by omega) (by omega)]
      · have hkl := sec_lt hN.1.2.1 hc hk
        have hks := sec_us hN.1.2.1 hc hk
        by_cases hss : s' = s
        · subst hss
          have hs0 : 0 < s' := by
            by_cases h0 : s' = 0
            · rw [h0, us_0 hN.1.1] at hf; cases hf
            · omega
          rw [An_s hR hs0 hs (by rw [addS_us hs hs]; simp), show pa (addS N p s') s' = p from by unfold pa; rw [addS_p hs, cl_nI (by omega)], An_add hN.1.1 hR hs hf hp hup, beq_no (fun e => by rw [e, hks] at hf; cases hf), Bool.false_or] at ha
          have := hcov
          unfold Cov at this
          rw [Bool.or_eq_false_iff] at this
          have h3 := anyN_f.mp this.1 c hc
          rw [hk, ha] at h3
          cases h3
        · rw [addS_us hs hs', decide_eq_false hss, Bool.or_false] at hu
          rw [An_add hN.1.1 hR hs hf hs' hu] at ha
          exact ⟨hu, ha⟩
  · rw [wr_other _ _ _ _ _ (by omega), wr_same]
  · rw [wr_same, wr_other _ _ _ _ _ (by omega)]
  · rw [wr_other _ _ _ _ _ (by omega), wr_other _ _ _ _ _ (by omega), if_neg (by omega)]
  · rw [wr_other _ _ _ _ _ (by omega), wr_other _ _ _ _ _ (by omega)]
theorem m_add_ {M : Mem} (h : WFt (M.1 7 1)) (hm : manyS (M.1 7 1) < 20) : ∃ M', L_X9_addSection_49 (nI p) M FU 0 = some (nI (freS (M.1 7 1)), M') ∧ M'.1 7 1 = addS (M.1 7 1) p (freS (M.1 7 1)) ∧ FrN M M' := by
  obtain ⟨hs, hf, hl⟩ := fre_spec hm
  generalize hfr : freS (M.1 7 1) = s at hs hf hl ⊢
  refine loopI (fun n (σ : Int32) => L_X9_addSection_49 (nI p) M n σ) (fun i σ => σ = nI i) (fun o => ∃ M', o = some (nI s, M') ∧ M'.1 7 1 = addS (M.1 7 1) p s ∧ FrN M M') s (fun n i σ hi hσ => ?_) (fun n σ hσ => ?_) FU (FU_lt (by omega)) (nI 0) rfl
  · subst hσ
    refine Or.inr ⟨nI (i + 1), ?_, rfl⟩
    show L_X9_addSection_49 (nI p) M (n + 1) _ = L_X9_addSection_49 (nI p) M n _
    rw [L_X9_addSection_49]
    simp (disch := omega) only [↓ite_b2r, ↓ite_nb2r, ↓lit_m1, ↓lit_m2, lit_0, lit_1, lit_2, lit_3, lit_4, lit_5, lit_6, lit_7, lit_8, lit_9, lit_10, lit_11, lit_12, lit_13, lit_14, lit_15, lit_16, lit_17, lit_18, lit_19, lit_20, lit_21, lit_22, lit_23, lit_24, lit_25, lit_26, lit_27, lit_28, lit_29, lit_30, lit_31, lit_32, lit_33, lit_34, lit_35, lit_36, lit_40, lit_41, lit_42, lit_44, lit_48, lit_57, lit_59, lit_62, lit_63, lit_64, lit_82, lit_98, lit_99, lit_100, lit_101, lit_102, lit_103, lit_104, lit_105, lit_106, lit_107, lit_108, lit_109, lit_110, lit_111, lit_112, lit_113, lit_119, lit_120, lit_127, lit_128, lit_149, lit_150, lit_202, lit_240, lit_262, lit_894, lit_900, lit_999, lit_1000, lit_2000, lit_2662, lit_2663, lit_2695, lit_2701, lit_2702, lit_3602, lit_10806, nI_add, pk_mul, cl_nI, inb_nI, nI_leI, nI_ltI, nI_eq, nI_eq_m1, m1_eq_nI, nI_eq_m2, div_nI, rem_nI, Option.bind_some, b2_0, b2_1, isb_b2, if_true_, if_false_, ↓reduceIte, reduceCtorEq, not_true_eq_false, not_false_eq_true, bt_hasBit, ult, Nat.add_zero, false_and, true_and, and_true, and_false, Nat.reduceLeDiff, Nat.reduceEqDiff, Nat.reduceLT, Bool.toNat_true, Bool.toNat_false, decide_true, decide_false, Bool.not_true, Bool.not_false, Bool.false_and, Bool.true_and, Bool.and_true, Bool.and_false, Bool.or_false, Bool.true_or, Bool.or_true, Bool.false_or, us_t.mp (hl i hi)]
  · subst hσ
    show ∃ M', L_X9_addSection_49 (nI p) M (n + 1) _ = _ ∧ _
    have e0 : M.1 7 1 (2 + s) = nI 0 := (us_f h hs).mp hf
    rw [L_X9_addSection_49]
    simp (disch := omega) only [↓ite_b2r, ↓ite_nb2r, ↓lit_m1, ↓lit_m2, lit_0, lit_1, lit_2, lit_3, lit_4, lit_5, lit_6, lit_7, lit_8, lit_9, lit_10, lit_11, lit_12, lit_13, lit_14, lit_15, lit_16, lit_17, lit_18, lit_19, lit_20, lit_21, lit_22, lit_23, lit_24, lit_25, lit_26, lit_27, lit_28, lit_29, lit_30, lit_31, lit_32, lit_33, lit_34, lit_35, lit_36, lit_40, lit_41, lit_42, lit_44, lit_48, lit_57, lit_59, lit_62, lit_63, lit_64, lit_82, lit_98, lit_99, lit_100, lit_101, lit_102, lit_103, lit_104, lit_105, lit_106, lit_107, lit_108, lit_109, lit_110, lit_111, lit_112, lit_113, lit_119, lit_120, lit_127, lit_128, lit_149, lit_150, lit_202, lit_240, lit_262, lit_894, lit_900, lit_999, lit_1000, lit_2000, lit_2662, lit_2663, lit_2695, lit_2701, lit_2702, lit_3602, lit_10806, nI_add, pk_mul, cl_nI, inb_nI, nI_leI, nI_ltI, nI_eq, nI_eq_m1, m1_eq_nI, nI_eq_m2, div_nI, rem_nI, Option.bind_some, b2_0, b2_1, isb_b2, if_true_, if_false_, ↓reduceIte, reduceCtorEq, not_true_eq_false, not_false_eq_true, bt_hasBit, ult, Nat.add_zero, false_and, true_and, and_true, and_false, Nat.reduceLeDiff, Nat.reduceEqDiff, Nat.reduceLT, Bool.toNat_true, Bool.toNat_false, decide_true, decide_false, Bool.not_true, Bool.not_false, Bool.false_and, Bool.true_and, Bool.and_true, Bool.and_false, Bool.or_false, Bool.true_or, Bool.or_true, Bool.false_or, e0]
    clear n
    have e1 : (wr (wr M 7 1 (2 + s) (nI 1)) 7 1 (22 + s) (nI p)).1 7 1 1 = M.1 7 1 1 := by rw [wr_same, upd_other (by omega), wr_same, upd_other (by omega)]
    have e2 : ∀ v, (wr (wr (wr M 7 1 (2 + s) (nI 1)) 7 1 (22 + s) (nI p)) 7 1 (42 + s) v).1 7 1 1 = M.1 7 1 1 := fun v => by rw [wr_same, upd_other (by omega)]; exact e1
    rw [e1, e2]
    have e3 : wr M 7 1 (2 + s) (nI 1) = wrs M 7 1 (upd (M.1 7 1) (2 + s) (nI 1)) := rfl
    rw [e3, wr_wrs, wr_wrs, wr_wrs, wr_wrs]
    have main := loopE (fun n (σ : Int32 × Mem) => L_X9_addSection_123 (nI s) n σ.1 σ.2) (fun l σ => σ = (nI l, wrs M 7 1 (fun k => if 82 + 6 * s ≤ k ∧ k < 82 + 6 * s + l then nI 0 else upd (upd (upd (upd (upd (M.1 7 1) (2 + s) (nI 1)) (22 + s) (nI p)) (42 + s) (M.1 7 1 1)) 1 (M.1 7 1 1 + nI 1)) (62 + s) (nI 0) k))) (P := fun q => q.1 = nI s ∧ q.2.1 7 1 = addS (M.1 7 1) p s ∧ FrN M q.2) 6 (fun n l σ hl6 hσ => ?_) (fun n σ hσ => ?_) FU (by decide) (nI 0, wrs M 7 1 (upd (upd (upd (upd (upd (M.1 7 1) (2 + s) (nI 1)) (22 + s) (nI p)) (42 + s) (M.1 7 1 1)) 1 (M.1 7 1 1 + nI 1)) (62 + s) (nI 0))) ?_
    · obtain ⟨b, h1, h2, h3, h4⟩ := main
      exact ⟨b.2, by rw [show (nI s, b.2) = b from Prod.ext h2.symm rfl]; exact h1, h3, h4⟩
    · subst hσ
      refine ⟨_, ?_, rfl⟩
      show L_X9_addSection_123 (nI s) (n + 1) _ _ = L_X9_addSection_123 (nI s) n _ _
      rw [L_X9_addSection_123]
      simp (disch := omega) only [↓ite_b2r, ↓ite_nb2r, ↓lit_m1, ↓lit_m2, lit_0, lit_1, lit_2, lit_3, lit_4, lit_5, lit_6, lit_7, lit_8, lit_9, lit_10, lit_11, lit_12, lit_13, lit_14, lit_15, lit_16, lit_17, lit_18, lit_19, lit_20, lit_21, lit_22, lit_23, lit_24, lit_25, lit_26, lit_27, lit_28, lit_29, lit_30, lit_31, lit_32, lit_33, lit_34, lit_35, lit_36, lit_40, lit_41, lit_42, lit_44, lit_48, lit_57, lit_59, lit_62, lit_63, lit_64, lit_82, lit_98, lit_99, lit_100, lit_101, lit_102, lit_103, lit_104, lit_105, lit_106, lit_107, lit_108, lit_109, lit_110, lit_111, lit_112, lit_113, lit_119, lit_120, lit_127, lit_128, lit_149, lit_150, lit_202, lit_240, lit_262, lit_894, lit_900, lit_999, lit_1000, lit_2000, lit_2662, lit_2663, lit_2695, lit_2701, lit_2702, lit_3602, lit_10806, nI_add, pk_mul, cl_nI, inb_nI, nI_leI, nI_ltI, nI_eq, nI_eq_m1, m1_eq_nI, nI_eq_m2, div_nI, rem_nI, Option.bind_some, b2_0, b2_1, isb_b2, if_true_, if_false_, ↓reduceIte, reduceCtorEq, not_true_eq_false, not_false_eq_true, bt_hasBit, ult, Nat.add_zero, false_and, true_and, and_true, and_false, Nat.reduceLeDiff, Nat.reduceEqDiff, Nat.reduceLT, Bool.toNat_true, Bool.toNat_false, decide_true, decide_false, Bool.not_true, Bool.not_false, Bool.false_and, Bool.true_and, Bool.and_true, Bool.and_false, Bool.or_false, Bool.true_or, Bool.or_true, Bool.false_or, Nat.not_le.mpr hl6, wr_wrs]
      congr 2
      funext k
      by_cases hk : k = 82 + 6 * s + l
      · subst hk; rw [upd_same, if_pos (by omega)]
      · rw [upd_other hk]
        by_cases h2 : 82 + 6 * s ≤ k ∧ k < 82 + 6 * s + l
        · rw [if_pos h2, if_pos (by omega)]
        · rw [if_neg h2, if_neg (by omega)]
    · subst hσ
      refine ⟨(nI s, _), ?_, rfl, wrs_same _ _ _ _, FrN_wrs _ (by omega) _⟩
      show L_X9_addSection_123 (nI s) (n + 1) _ _ = _
      rw [L_X9_addSection_123]
      simp (disch := omega) only [↓ite_b2r, ↓ite_nb2r, ↓lit_m1, ↓lit_m2, lit_0, lit_1, lit_2, lit_3, lit_4, lit_5, lit_6, lit_7, lit_8, lit_9, lit_10, lit_11, lit_12, lit_13, lit_14, lit_15, lit_16, lit_17, lit_18, lit_19, lit_20, lit_21, lit_22, lit_23, lit_24, lit_25, lit_26, lit_27, lit_28, lit_29, lit_30, lit_31, lit_32, lit_33, lit_34, lit_35, lit_36, lit_40, lit_41, lit_42, lit_44, lit_48, lit_57, lit_59, lit_62, lit_63, lit_64, lit_82, lit_98, lit_99, lit_100, lit_101, lit_102, lit_103, lit_104, lit_105, lit_106, lit_107, lit_108, lit_109, lit_110, lit_111, lit_112, lit_113, lit_119, lit_120, lit_127, lit_128, lit_149, lit_150, lit_202, lit_240, lit_262, lit_894, lit_900, lit_999, lit_1000, lit_2000, lit_2662, lit_2663, lit_2695, lit_2701, lit_2702, lit_3602, lit_10806, nI_add, pk_mul, cl_nI, inb_nI, nI_leI, nI_ltI, nI_eq, nI_eq_m1, m1_eq_nI, nI_eq_m2, div_nI, rem_nI, Option.bind_some, b2_0, b2_1, isb_b2, if_true_, if_false_, ↓reduceIte, reduceCtorEq, not_true_eq_false, not_false_eq_true, bt_hasBit, ult, Nat.add_zero, false_and, true_and, and_true, and_false, Nat.reduceLeDiff, Nat.reduceEqDiff, Nat.reduceLT, Bool.toNat_true, Bool.toNat_false, decide_true, decide_false, Bool.not_true, Bool.not_false, Bool.false_and, Bool.true_and, Bool.and_true, Bool.and_false, Bool.or_false, Bool.true_or, Bool.or_true, Bool.false_or, Nat.le_refl] <;> rfl
    · refine Prod.ext rfl ?_
      dsimp only
      congr 1
      funext k
      rw [if_neg (by omega)]
end AD
section KA
variable {k : Nat} {M : Mem}
theorem TB_add {N : Row} {p s : Nat} (hT : TB k N) (hs : s < 20) (hW : WFa (addS N p s)) : TB (k + 1) (addS N p s) := by
  have h1 := hT.1.1.1.2.2.2.2.2.1
  have hb := h1.2
  refine ⟨hW, ?_, ?_⟩
  · rw [addS_o (by omega) (by omega) (by omega) (by omega) (by omega) (by omega)]
    have := hT.2.1
    omega
  · rw [addS_1 hs, h1.1, nI_add, cl_nI (n := cl (N 1) + 1) (by omega)]
    have := hT.2.2
    omega
end KA
