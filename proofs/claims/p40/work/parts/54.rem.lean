/-! ===== a section is removed ===== -/
def gN (N : Row) (s t : Nat) : Bool := us N t && An N t s
def fkp (N : Row) (s e : Nat) : Bool := !gN N s (cl (N (2702 + 6 * e + 1)))
def cp6 (R : Row) (l e : Nat) : Row := fun k => if 2702 + 6 * l ≤ k ∧ k < 2702 + 6 * l + 6 then R (2702 + 6 * e + (k - (2702 + 6 * l))) else R k
def filR (N : Row) (s : Nat) : Nat → Row
  | 0 => N
  | e + 1 => if fkp N s e = true then cp6 (filR N s e) (cntN (fkp N s) e) e else filR N s e
def remS (N : Row) (s : Nat) : Row := fun k => if 2 ≤ k ∧ k < 22 then (if gN N s (k - 2) = true then nI 0 else N k) else if k = 2701 then nI (cntN (fkp N s) (hn N)) else filR N s (hn N) k
section RM
variable {N : Row} {s : Nat}
theorem filR_ge : ∀ e k, (k < 2702 ∨ 2702 + 6 * cntN (fkp N s) e ≤ k) → filR N s e k = N k
  | 0, _, _ => rfl
  | e + 1, k, h => by
    rw [cntN_s] at h
    rw [filR]
    by_cases hk : fkp N s e = true
    · rw [hk] at h
      rw [if_pos hk]
      unfold cp6
      rw [if_neg (by simp at h; omega)]
      exact filR_ge e k (by simp at h; omega)
    · rw [if_neg hk]
      exact filR_ge e k (by omega)
theorem filR_at : ∀ e e' w, e' < e → fkp N s e' = true → w < 6 → filR N s e (2702 + 6 * cntN (fkp N s) e' + w) = N (2702 + 6 * e' + w)
  | 0, _, _, h, _, _ => absurd h (Nat.not_lt_zero _)
  | e + 1, e', w, h, hk, hw => by
    rw [filR]
    by_cases hee : e' = e
    · subst hee
      rw [if_pos hk]
      unfold cp6
      rw [if_pos (by omega)]
      have hle := cntN_le (fkp N s) e'
      rw [filR_ge e' _ (by omega)]
      congr 1
      omega
    · have ih := filR_at e e' w (by omega) hk hw
      by_cases hk2 : fkp N s e = true
      · rw [if_pos hk2]
        unfold cp6
        have hlt : cntN (fkp N s) e' + 1 ≤ cntN (fkp N s) e := by
          have := cnt_mon (p := fkp N s) (show e' + 1 ≤ e by omega)
          rw [cntN_s, hk] at this
          simpa using this
        rw [if_neg (by omega)]
        exact ih
      · rw [if_neg hk2]
        exact ih
theorem remS_lo {k : Nat} (h : k < 2 ∨ 22 ≤ k) (h2 : k < 2701) : remS N s k = N k := by
  unfold remS
  rw [if_neg (by omega), if_neg (by omega)]
  exact filR_ge _ _ (by omega)
theorem remS_us (hN : WFt N) {t : Nat} (ht : t < 20) : us (remS N s) t = (us N t && !gN N s t) := by
  unfold us remS
  rw [if_pos (by omega), show 2 + t - 2 = t by omega]
  cases hg : gN N s t with
  | true => simp (disch := omega) only [↓ite_b2r, ↓ite_nb2r, ↓lit_m1, ↓lit_m2, lit_0, lit_1, lit_2, lit_3, lit_4, lit_5, lit_6, lit_7, lit_8, lit_9, lit_10, lit_11, lit_12, lit_13, lit_14, lit_15, lit_16, lit_17, lit_18, lit_19, lit_20, lit_21, lit_22, lit_23, lit_24, lit_25, lit_26, lit_27, lit_28, lit_29, lit_30, lit_31, lit_32, lit_33, lit_34, lit_35, lit_36, lit_40, lit_41, lit_42, lit_44, lit_48, lit_57, lit_59, lit_62, lit_63, lit_64, lit_82, lit_98, lit_99, lit_100, lit_101, lit_102, lit_103, lit_104, lit_105, lit_106, lit_107, lit_108, lit_109, lit_110, lit_111, lit_112, lit_113, lit_119, lit_120, lit_127, lit_128, lit_149, lit_150, lit_202, lit_240, lit_262, lit_894, lit_900, lit_999, lit_1000, lit_2000, lit_2662, lit_2663, lit_2695, lit_2701, lit_2702, lit_3602, lit_10806, nI_add, pk_mul, cl_nI, inb_nI, nI_leI, nI_ltI, nI_eq, nI_eq_m1, m1_eq_nI, nI_eq_m2, div_nI, rem_nI, Option.bind_some, b2_0, b2_1, isb_b2, if_true_, if_false_, ↓reduceIte, reduceCtorEq, not_true_eq_false, not_false_eq_true, bt_hasBit, ult, Nat.add_zero, false_and, true_and, and_true, and_false, Nat.reduceLeDiff, Nat.reduceEqDiff, Nat.reduceLT, Bool.toNat_true, Bool.toNat_false, decide_true, decide_false, Bool.not_true, Bool.not_false, Bool.false_and, Bool.true_and, Bool.and_true, Bool.and_false, Bool.or_false, Bool.true_or, Bool.or_true, Bool.false_or]
  | false => simp
theorem remS_pa {t : Nat} (ht : t < 20) : pa (remS N s) t = pa N t := by unfold pa; rw [remS_lo (by omega) (by omega)]
theorem gN_us {t : Nat} (hu : us N t = true) : gN N s t = An N t s := by unfold gN; rw [hu, Bool.true_and]
theorem WFt_rem (hN : WFt N) (hs0 : s ≠ 0) : WFt (remS N s) := by
  obtain ⟨r, r1, r2, r3⟩ := rank20 hN
  have hold : ∀ t, t < 20 → us (remS N s) t = true → us N t = true ∧ An N t s = false := fun t ht hu => by
    rw [remS_us hN ht, Bool.and_eq_true, Bool.not_eq_true'] at hu
    exact ⟨hu.1, by rw [← gN_us hu.1]; exact hu.2⟩
  have hpar : ∀ t, 0 < t → t < 20 → us (remS N s) t = true → us (remS N s) (pa N t) = true := fun t h0 ht hu => by
    obtain ⟨a, b⟩ := hold t ht hu
    obtain ⟨b1, b2, b3⟩ := hN.2.2.2.1 t h0 ht a
    have hne : t ≠ s := fun e => by rw [e, An_refl] at b; cases b
    rw [remS_us hN b2, b3, gN_us b3, An_up hN h0 ht a hne, b]
    rfl
  refine ⟨fun t ht => ?_, ?_, ?_, fun t h0 ht hu => ?_, ⟨r, fun t h0 ht hu => ?_⟩, ?_, fun t h0 ht hu => ?_, fun t t' a b c a' b' c' e => ?_⟩
  · unfold remS
    rw [if_pos (by omega)]
    by_cases hg : gN N s (2 + t - 2) = true
    · rw [if_pos hg]; exact Or.inl rfl
    · rw [if_neg hg]; exact hN.1 t ht
  · unfold remS
    rw [if_pos (by omega), if_neg (by rw [Nat.sub_self, gN_us (us_0 hN), An_0, beq_no (fun e => hs0 e.symm)]; decide)]
    exact hN.2.1
  · rw [remS_lo (by omega) (by omega)]; exact hN.2.2.1
  · obtain ⟨a, b⟩ := hold t ht hu
    obtain ⟨b1, b2, b3⟩ := hN.2.2.2.1 t h0 ht a
    rw [remS_pa ht, remS_lo (by omega) (by omega)]
    exact ⟨b1, b2, hpar t h0 ht hu⟩
  · rw [remS_pa ht]
    exact r2 t h0 ht (hold t ht hu).1
  · exact isV_cg (remS_lo (by omega) (by omega)) hN.2.2.2.2.2.1
  · rw [remS_lo (k := 1) (by omega) (by omega)]
    exact isV_cg (remS_lo (by omega) (by omega)) (hN.2.2.2.2.2.2.1 t h0 ht (hold t ht hu).1)
  · rw [remS_lo (by omega) (by omega), remS_lo (k := 42 + t') (by omega) (by omega)] at e
    exact hN.2.2.2.2.2.2.2 t t' a b (hold t b c).1 a' b' (hold t' b' c').1 e
theorem An_rem (hN : WFt N) (hs0 : s ≠ 0) {t u : Nat} (ht : t < 20) (hu : us N t = true) (ha : An N t s = false) : An (remS N s) t u = An N t u := by
  refine An_ext hN (WFt_rem hN hs0) (fun t => An N t s = false) (by rw [An_0, beq_no (fun e => hs0 e.symm)]) (fun t h0 ht hut hP => ?_) t ht hu ha
  have hne : t ≠ s := fun e => by rw [e, An_refl] at hP; cases hP
  refine ⟨by rw [remS_us hN ht, hut, gN_us hut, hP]; rfl, remS_pa ht, ?_⟩
  show An N (pa N t) s = false
  rw [An_up hN h0 ht hut hne]
  exact hP
theorem remS_hn (hh : WFh N) : remS N s 2701 = nI (cntN (fkp N s) (hn N)) ∧ hn (remS N s) = cntN (fkp N s) (hn N) := by
  have e : remS N s 2701 = nI (cntN (fkp N s) (hn N)) := by
    unfold remS
    rw [if_neg (by omega), if_pos rfl]
  have hl : hn N < 151 := hh.1.2
  have hle := cntN_le (fkp N s) (hn N)
  refine ⟨e, ?_⟩
  show cl (remS N s 2701) = _
  rw [e, cl_nI (by omega)]
theorem remS_e {k : Nat} (h : 2702 ≤ k) : remS N s k = filR N s (hn N) k := by
  unfold remS
  rw [if_neg (by omega), if_neg (by omega)]
theorem WFh_rem (hh : WFh N) : WFh (remS N s) := by
  have hl : hn N < 151 := hh.1.2
  have hle := cntN_le (fkp N s) (hn N)
  obtain ⟨e1, e2⟩ := remS_hn (s := s) hh
  refine ⟨?_, fun e he => ?_⟩
  · unfold isV
    rw [e1, cl_nI (by omega)]
    exact ⟨rfl, by omega⟩
  · rw [e2] at he
    obtain ⟨e', h1, h2, h3⟩ := cnt_at he
    obtain ⟨a1, a2, a3⟩ := hh.2 e' h1
    subst h3
    unfold isV at *
    rw [remS_e (by omega), remS_e (by omega), remS_e (by omega), filR_at _ e' 1 h1 h2 (by omega), filR_at _ e' 2 h1 h2 (by omega), filR_at _ e' 3 h1 h2 (by omega)]
    exact ⟨a1, a2, a3⟩
theorem tou_c (ht : Tou N s = false) {c : Nat} (hcc : c < 10) (hk : ck N c = true) : An N (sec N c) s = false := by
  unfold Tou at ht
  rw [Bool.or_eq_false_iff] at ht
  have h1 := anyN_f.mp ht.2 c hcc
  rw [hk, Bool.true_and] at h1
  unfold Ov at h1
  rw [Bool.or_eq_false_iff] at h1
  exact h1.2
theorem tou_q (ht : Tou N s = false) {k : Nat} (hk : k < wq N) : An N (wse N k) s = false := by
  unfold Tou Wf at ht
  rw [Bool.or_eq_false_iff] at ht
  have h1 := anyN_f.mp ht.1 k hk
  unfold Ov at h1
  rw [Bool.or_eq_false_iff] at h1
  exact h1.2
theorem WFa_rem (hN : WFa N) (hs0 : s ≠ 0) (ht : Tou N s = false) : WFa (remS N s) := by
  have hR := WFt_rem hN.1.1 hs0
  have hc := hN.1.2.1
  refine WFa_tree hN hR (remS_lo (by omega) (by omega)) (fun k h1 h2 => remS_lo (by omega) h2) (fun k hk => isV_cg (remS_lo (by omega) (by omega)) (hN.1.2.2.1.1 k hk)) (WFh_rem hN.1.2.2.2.2.2) (fun c hc10 hk => ?_) (fun k hk => ?_) (fun c c' h1 h2 k1 k2 => ?_)
  · have hu := sec_us hc hc10 hk
    rw [remS_us hN.1.1 (sec_lt hc hc10 hk), hu, gN_us hu, tou_c ht hc10 hk]; rfl
  · obtain ⟨-, b, c⟩ := wse_eq hN.1.2.2.2.1 hk
    rw [remS_us hN.1.1 b, c, gN_us c, tou_q ht hk]; rfl
  · unfold Ov
    rw [An_rem hN.1.1 hs0 (sec_lt hc h1 k1) (sec_us hc h1 k1) (tou_c ht h1 k1), An_rem hN.1.1 hs0 (sec_lt hc h2 k2) (sec_us hc h2 k2) (tou_c ht h2 k2)]
theorem c_removeOf {M : Mem} {g : Nat} (hN : WFh N) (h : RDh (M.1 g) N) {S : Int32} (hS : ∀ t, t < 20 → bt S t = gN N s t) : ∃ M', f_X2_removeOf g S M = some M' ∧ M'.1 g 14 2 = nI (cntN (fkp N s) (hn N)) ∧ M'.1 g 14 1 = M.1 g 14 1 ∧ (∃ f, f < 150 ∧ M.1 g 14 1 = nI f ∧ ∀ e' w, e' < hn N → fkp N s e' = true → w < 6 → M'.1 g 15 (((f + cntN (fkp N s) e') % 150) * 6 + w) = N (2702 + 6 * e' + w)) ∧ (∀ j, j ≠ 14 → j ≠ 15 → M'.1 g j = M.1 g j) ∧ Fr g M M' := by
  obtain ⟨h1, f, hf, hf1, hf2⟩ := h
  have hl : hn N < 151 := hN.1.2
  have hn1 : M.1 g 14 2 = nI (hn N) := h1.trans hN.1.1
  unfold f_X2_removeOf
  refine loopI (fun n (σ : Int32 × Int32 × Mem) => L_X2_removeOf_4 g S n σ.1 σ.2.1 σ.2.2) (fun e σ => ∃ M', σ = (nI (cntN (fkp N s) e), nI e, M') ∧ M'.1 g 14 = M.1 g 14 ∧ (∀ x w, cntN (fkp N s) e ≤ x → x < 150 → w < 6 → M'.1 g 15 (((f + x) % 150) * 6 + w) = M.1 g 15 (((f + x) % 150) * 6 + w)) ∧ (∀ e' w, e' < e → fkp N s e' = true → w < 6 → M'.1 g 15 (((f + cntN (fkp N s) e') % 150) * 6 + w) = N (2702 + 6 * e' + w)) ∧ (∀ j, j ≠ 14 → j ≠ 15 → M'.1 g j = M.1 g j) ∧ Fr g M M') (fun o => ∃ M', o = some M' ∧ M'.1 g 14 2 = nI (cntN (fkp N s) (hn N)) ∧ M'.1 g 14 1 = M.1 g 14 1 ∧ (∃ f, f < 150 ∧ M.1 g 14 1 = nI f ∧ ∀ e' w, e' < hn N → fkp N s e' = true → w < 6 → M'.1 g 15 (((f + cntN (fkp N s) e') % 150) * 6 + w) = N (2702 + 6 * e' + w)) ∧ (∀ j, j ≠ 14 → j ≠ 15 → M'.1 g j = M.1 g j) ∧ Fr g M M') (hn N) (fun n e σ he hσ => ?_) (fun n σ hσ => ?_) FU (FU_lt (by omega)) (nI 0, nI 0, M) ⟨M, rfl, rfl, fun _ _ _ _ _ => rfl, fun e' _ h => absurd h (Nat.not_lt_zero _), fun _ _ _ => rfl, Fr.rf⟩
  · obtain ⟨M1, rfl, a1, a2, a3, a4, a5⟩ := hσ
    refine Or.inr ?_
    show ∃ s', L_X2_removeOf_4 g S (n + 1) _ _ _ = L_X2_removeOf_4 g S n _ _ _ ∧ _
    have hle := cntN_le (fkp N s) e
    have hf1' : M1.1 g 14 1 = nI f := by rw [a1]; exact hf1
    have hv : ∀ w, w < 6 → f_X2_fact g (nI e) (nI w) M1 = some (N (2702 + 6 * e + w)) := fun w hw => by
      rw [c_hfact hf1' hf (by omega) hw, a2 e w hle (by omega) hw, hf2 e w he hw]
    obtain ⟨s1, s2, s3⟩ := hN.2 e he
    have hbit : bt S (cl (N (2702 + 6 * e + 1))) = gN N s (cl (N (2702 + 6 * e + 1))) := hS _ s1.2
    have hs1l := s1.2
    have hfk : fkp N s e = !gN N s (cl (N (2702 + 6 * e + 1))) := rfl
    rw [L_X2_removeOf_4, cntN_s]
    dsimp only
    rw [a1, hn1, if_neg (show ¬ nI (hn N) ≤ nI e from fun z => by rw [nI_leI (by omega) (by omega)] at z; omega), show f_X2_fact g (nI e) 1 M1 = _ from hv 1 (by decide), Option.bind_some, s1.1, bt_hasBit (by omega), hbit]
    unfold B_X2_removeOf_58
    cases hg : gN N s (cl (N (2702 + 6 * e + 1))) with
    | true =>
      rw [hg] at hfk
      refine ⟨(nI (cntN (fkp N s) e + 0), nI (e + 1), M1), ?_, M1, ?_, a1, fun x w h3 => ?_, fun e' w h3 h4 h5 => ?_, a4, a5⟩
      · rw [if_neg (show ¬ b2 true = 0 by decide), nI_1]
        rfl
      · rw [hfk]; rfl
      · rw [hfk] at h3
        exact a2 x w (by simpa using h3)
      · by_cases hee : e' = e
        · subst hee; rw [hfk] at h4; cases h4
        · exact a3 e' w (by omega) h4 h5
    | false =>
      rw [hg] at hfk
      rw [if_pos (show b2 false = 0 from rfl)]
      have inner := loopI (fun m (σ : Int32 × Mem) => L_X2_removeOf_28 g (L_X2_removeOf_4 g S n) S (nI (cntN (fkp N s) e)) (nI e) m σ.1 σ.2) (fun w σ => ∃ M', σ = (nI w, M') ∧ M'.1 g 14 = M.1 g 14 ∧ (∀ x w', x ≠ cntN (fkp N s) e → x < 150 → w' < 6 → M'.1 g 15 (((f + x) % 150) * 6 + w') = M1.1 g 15 (((f + x) % 150) * 6 + w')) ∧ (∀ w', w' < 6 → M'.1 g 15 (((f + cntN (fkp N s) e) % 150) * 6 + w') = if w' < w then N (2702 + 6 * e + w') else M1.1 g 15 (((f + cntN (fkp N s) e) % 150) * 6 + w')) ∧ (∀ j, j ≠ 14 → j ≠ 15 → M'.1 g j = M.1 g j) ∧ Fr g M M') (fun o => ∃ M', o = L_X2_removeOf_4 g S n (nI (cntN (fkp N s) e + 1)) (nI (e + 1)) M' ∧ M'.1 g 14 = M.1 g 14 ∧ (∀ x w', x ≠ cntN (fkp N s) e → x < 150 → w' < 6 → M'.1 g 15 (((f + x) % 150) * 6 + w') = M1.1 g 15 (((f + x) % 150) * 6 + w')) ∧ (∀ w', w' < 6 → M'.1 g 15 (((f + cntN (fkp N s) e) % 150) * 6 + w') = N (2702 + 6 * e + w')) ∧ (∀ j, j ≠ 14 → j ≠ 15 → M'.1 g j = M.1 g j) ∧ Fr g M M') 6 (fun m w σ hw hσ => ?_) (fun m σ hσ => ?_) FU (by decide) (nI 0, M1) ⟨M1, rfl, a1, fun _ _ _ _ _ => rfl, fun w' _ => by rw [if_neg (Nat.not_lt_zero _)], a4, a5⟩
      · obtain ⟨M2, b0, b1, b2', b3, b4, b5⟩ := inner
        refine ⟨(nI (cntN (fkp N s) e + 1), nI (e + 1), M2), b0, M2, by rw [hfk]; rfl, b1, fun x w h3 h4 h5 => ?_, fun e' w h3 h4 h5 => ?_, b4, b5⟩
        · rw [hfk] at h3
          have h3' : cntN (fkp N s) e + 1 ≤ x := h3
          rw [b2' x w (by omega) h4 h5]
          exact a2 x w (by omega) h4 h5
        · by_cases hee : e' = e
          · subst hee; exact b3 w h5
          · have hlt : cntN (fkp N s) e' + 1 ≤ cntN (fkp N s) e := by
              have := cnt_mon (p := fkp N s) (show e' + 1 ≤ e by omega)
              rw [cntN_s, h4] at this
              simpa using this
            rw [b2' _ w (by omega) (by omega) h5]
            exact a3 e' w (by omega) h4 h5
      · obtain ⟨M2, rfl, b1, b2', b3, b4, b5⟩ := hσ
        refine Or.inr ?_
        show ∃ s', L_X2_removeOf_28 g _ S _ _ (m + 1) _ _ = L_X2_removeOf_28 g _ S _ _ m _ _ ∧ _
        have hf2' : M2.1 g 14 1 = nI f := by rw [b1]; exact hf1
        have hval : M2.1 g 15 (((f + e) % 150) * 6 + w) = N (2702 + 6 * e + w) := by
          by_cases hec : e = cntN (fkp N s) e
          · rw [hec, b3 w hw, if_neg (Nat.lt_irrefl _), ← hec, a2 e w hle (by omega) hw, hf2 e w he hw]
          · rw [b2' e w hec (by omega) hw, a2 e w hle (by omega) hw, hf2 e w he hw]
        refine ⟨(nI (w + 1), wr M2 g 15 (((f + cntN (fkp N s) e) % 150) * 6 + w) (N (2702 + 6 * e + w))), ?_, _, rfl, ?_, fun x w' h3 h4 h5 => ?_, fun w' h5 => ?_, fun j h3 h4 => by rw [wr_other _ _ _ _ _ (by omega)]; exact b4 j h3 h4, b5.tr (Fr_wr _ _ _ _ _)⟩
        · rw [L_X2_removeOf_28]
          dsimp only
          rw [if_neg (show ¬ (6 : Int32) ≤ nI w from fun z => by have z2 : nI 6 ≤ nI w := z; rw [nI_leI (by omega) (by omega)] at z2; omega), c_hfact hf2' hf (by omega) hw, hval, Option.bind_some, c_hset hf2' hf (by omega) hw, Option.bind_some, nI_1]
        · rw [wr_other _ _ _ _ _ (by omega)]; exact b1
        · rw [wr_same, upd_other (by omega)]; exact b2' x w' h3 h4 h5
        · rw [wr_same]
          by_cases hww : w' = w
          · subst hww; rw [upd_same, if_pos (by omega)]
          · rw [upd_other (by omega), b3 w' h5]
            by_cases h2 : w' < w
            · rw [if_pos h2, if_pos (by omega)]
            · rw [if_neg h2, if_neg (by omega)]
      · obtain ⟨M2, rfl, b1, b2', b3, b4, b5⟩ := hσ
        refine ⟨M2, ?_, b1, b2', fun w' h5 => by rw [b3 w' h5, if_pos h5], b4, b5⟩
        show L_X2_removeOf_28 g _ S _ _ (m + 1) _ _ = _
        rw [L_X2_removeOf_28]
        unfold B_X2_removeOf_58
        simp (disch := omega) only [↓ite_b2r, ↓ite_nb2r, ↓lit_m1, ↓lit_m2, lit_0, lit_1, lit_2, lit_3, lit_4, lit_5, lit_6, lit_7, lit_8, lit_9, lit_10, lit_11, lit_12, lit_13, lit_14, lit_15, lit_16, lit_17, lit_18, lit_19, lit_20, lit_21, lit_22, lit_23, lit_24, lit_25, lit_26, lit_27, lit_28, lit_29, lit_30, lit_31, lit_32, lit_33, lit_34, lit_35, lit_36, lit_40, lit_41, lit_42, lit_44, lit_48, lit_57, lit_59, lit_62, lit_63, lit_64, lit_82, lit_98, lit_99, lit_100, lit_101, lit_102, lit_103, lit_104, lit_105, lit_106, lit_107, lit_108, lit_109, lit_110, lit_111, lit_112, lit_113, lit_119, lit_120, lit_127, lit_128, lit_149, lit_150, lit_202, lit_240, lit_262, lit_894, lit_900, lit_999, lit_1000, lit_2000, lit_2662, lit_2663, lit_2695, lit_2701, lit_2702, lit_3602, lit_10806, nI_add, pk_mul, cl_nI, inb_nI, nI_leI, nI_ltI, nI_eq, nI_eq_m1, m1_eq_nI, nI_eq_m2, div_nI, rem_nI, Option.bind_some, b2_0, b2_1, isb_b2, if_true_, if_false_, ↓reduceIte, reduceCtorEq, not_true_eq_false, not_false_eq_true, bt_hasBit, ult, Nat.add_zero, false_and, true_and, and_true, and_false, Nat.reduceLeDiff, Nat.reduceEqDiff, Nat.reduceLT, Bool.toNat_true, Bool.toNat_false, decide_true, decide_false, Bool.not_true, Bool.not_false, Bool.false_and, Bool.true_and, Bool.and_true, Bool.and_false, Bool.or_false, Bool.true_or, Bool.or_true, Bool.false_or, Nat.le_refl]
  · obtain ⟨M1, rfl, a1, a2, a3, a4, a5⟩ := hσ
    show ∃ M', L_X2_removeOf_4 g S (n + 1) _ _ _ = some M' ∧ _
    refine ⟨wr M1 g 14 2 (nI (cntN (fkp N s) (hn N))), ?_, ?_, ?_, ⟨f, hf, hf1, fun e' w h3 h4 h5 => ?_⟩, fun j h3 h4 => by rw [wr_other _ _ _ _ _ (by omega)]; exact a4 j h3 h4, a5.tr (Fr_wr _ _ _ _ _)⟩
    · rw [L_X2_removeOf_4]
      dsimp only
      rw [a1, hn1, if_pos (nI_leI (by omega) (by omega) |>.mpr (Nat.le_refl _))]
    · rw [wr_same, upd_same]
    · rw [wr_same, upd_other (by omega), a1]
    · rw [wr_other _ _ _ _ _ (by omega)]; exact a3 e' w h3 h4 h5
end RM
