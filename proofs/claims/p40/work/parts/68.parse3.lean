/-! ===== the text: orders ===== -/
def DN (L V Lr Vr : Nat → Int32) (o : Nat) : Prop := ∀ q, q < o → L q = Lr q ∧ kN (L q) ≠ 0 ∧ ∀ w, w < kN (L q) → V (4 * q + w) = Vr (4 * q + w)
def OrdOut (M0 R0 : Mem) (len : Nat) (p : Nat) (M : Mem) (o : Nat) (out : Option (Int32 × Mem)) : Prop :=
  (∃ R' p' M', out = some (nI 0, R') ∧ RF R0 R' p' ∧ p' ≤ len ∧ PR p M (some (nI p', M')) ∧ CF M0 M') ∨
  (∃ R' p' M' L' V' Lr' Vr', out = some (nI 1, R') ∧ RS R0 R' p' (o + 1) Lr' Vr' ∧ CS M0 M' 0 (o + 1) 0 0 L' V' ∧ DN L' V' Lr' Vr' (o + 1) ∧ p + 4 ≤ p' ∧ p' ≤ len ∧ ∀ r, PR p' M' r → PR p M r)
section PO
variable {M0 M R0 R : Mem} {len o nu dg p st : Nat} {B L V Lr Vr : Nat → Int32}
theorem RS.ord (h : RS R0 R p o L V) (x : Int32) (q : Nat) : RS R0 (wr (wr (wr R 7 8 o x) 7 0 11 (nI (o + 1))) 7 0 10 (nI q)) q (o + 1) (upd L o x) V := by
  obtain ⟨⟨a1, a2, a3, a4, a5⟩, b1, b2', b3⟩ := h
  refine ⟨⟨by rw [wr_same, upd_same], fun j h1 h2 h3 => ?_, fun i h1 h2 => ?_, fun g hg => ?_, ?_⟩, ?_, ?_, ?_⟩
  · rw [wr_other _ _ _ _ _ (by omega), wr_other _ _ _ _ _ (by omega), wr_other _ _ _ _ _ (by omega)]; exact a2 j h1 h2 h3
  · rw [wr_same, upd_other (by omega), wr_same, upd_other (by omega), wr_other _ _ _ _ _ (by omega)]; exact a3 i h1 h2
  · rw [wr_ng _ _ _ _ hg, wr_ng _ _ _ _ hg, wr_ng _ _ _ _ hg]; exact a4 g hg
  · rw [wr_2, wr_2, wr_2]; exact a5
  · rw [wr_same, upd_other (by omega), wr_same, upd_same]
  · rw [wr_other _ _ _ _ _ (by omega), wr_other _ _ _ _ _ (by omega), wr_same, b2']
  · rw [wr_other _ _ _ _ _ (by omega), wr_other _ _ _ _ _ (by omega), wr_other _ _ _ _ _ (by omega)]; exact b3
theorem o46_0 (x y : Int32) (R : Mem) (n : Nat) (w : Int32) : L_X9_readsOrder_46 x y (n + 1) (nI 0) w R = some (nI 0, R) := by
  have e : B_X9_readsOrder_76 x (nI 0) R = some (nI 0, R) := by
    unfold B_X9_readsOrder_76 B_X9_readsOrder_95 B_X9_readsOrder_96
    simp (disch := omega) only [↓ite_b2r, ↓ite_nb2r, ↓lit_m1, ↓lit_m2, lit_0, lit_1, lit_2, lit_3, lit_4, lit_5, lit_6, lit_7, lit_8, lit_9, lit_10, lit_11, lit_12, lit_13, lit_14, lit_15, lit_16, lit_17, lit_18, lit_19, lit_20, lit_21, lit_22, lit_23, lit_24, lit_25, lit_26, lit_27, lit_28, lit_29, lit_30, lit_31, lit_32, lit_33, lit_34, lit_35, lit_36, lit_40, lit_41, lit_42, lit_44, lit_48, lit_57, lit_59, lit_62, lit_63, lit_64, lit_82, lit_98, lit_99, lit_100, lit_101, lit_102, lit_103, lit_104, lit_105, lit_106, lit_107, lit_108, lit_109, lit_110, lit_111, lit_112, lit_113, lit_119, lit_120, lit_127, lit_128, lit_149, lit_150, lit_202, lit_240, lit_262, lit_894, lit_900, lit_999, lit_1000, lit_2000, lit_2662, lit_2663, lit_2695, lit_2701, lit_2702, lit_3602, lit_10806, nI_add, pk_mul, cl_nI, inb_nI, nI_leI, nI_ltI, nI_eq, nI_eq_m1, m1_eq_nI, nI_eq_m2, div_nI, rem_nI, Option.bind_some, b2_0, b2_1, isb_b2, if_true_, if_false_, ↓reduceIte, reduceCtorEq, not_true_eq_false, not_false_eq_true, bt_hasBit, ult, Nat.add_zero, false_and, true_and, and_true, and_false, Nat.reduceLeDiff, Nat.reduceEqDiff, Nat.reduceLT, Bool.toNat_true, Bool.toNat_false, decide_true, decide_false, Bool.not_true, Bool.not_false, Bool.false_and, Bool.true_and, Bool.and_true, Bool.and_false, Bool.or_false, Bool.true_or, Bool.or_true, Bool.false_or] <;> rfl
  rw [L_X9_readsOrder_46]
  by_cases h : y ≤ w
  · rw [if_pos h]; exact e
  · rw [if_neg h, if_pos (show nI 0 = 0 from rfl)]; exact e
theorem rd_order (hT : TE M0 R0 len B) (ho : o < 30) (hr : RS R0 R p o Lr Vr) (hc : CS M0 M 0 o nu dg L V) (hd : DN L V Lr Vr o) (hp : p < len) : OrdOut M0 R0 len p M o (f_X9_readsOrder R) := by
  have ht1 := hT.1
  have e10 := hr.1.1
  have e4 : R.1 7 4 p = B p := by rw [hr.1.2.1 4 (by omega) (by omega) (by omega)]; exact hT.2.2.2.2 p hp
  obtain ⟨-, hk4⟩ := nA_k (B p)
  unfold f_X9_readsOrder B_X9_readsOrder_24 B_X9_readsOrder_39
  simp (disch := omega) only [↓ite_b2r, ↓ite_nb2r, ↓lit_m1, ↓lit_m2, lit_0, lit_1, lit_2, lit_3, lit_4, lit_5, lit_6, lit_7, lit_8, lit_9, lit_10, lit_11, lit_12, lit_13, lit_14, lit_15, lit_16, lit_17, lit_18, lit_19, lit_20, lit_21, lit_22, lit_23, lit_24, lit_25, lit_26, lit_27, lit_28, lit_29, lit_30, lit_31, lit_32, lit_33, lit_34, lit_35, lit_36, lit_40, lit_41, lit_42, lit_44, lit_48, lit_57, lit_59, lit_62, lit_63, lit_64, lit_82, lit_98, lit_99, lit_100, lit_101, lit_102, lit_103, lit_104, lit_105, lit_106, lit_107, lit_108, lit_109, lit_110, lit_111, lit_112, lit_113, lit_119, lit_120, lit_127, lit_128, lit_149, lit_150, lit_202, lit_240, lit_262, lit_894, lit_900, lit_999, lit_1000, lit_2000, lit_2662, lit_2663, lit_2695, lit_2701, lit_2702, lit_3602, lit_10806, nI_add, pk_mul, cl_nI, inb_nI, nI_leI, nI_ltI, nI_eq, nI_eq_m1, m1_eq_nI, nI_eq_m2, div_nI, rem_nI, Option.bind_some, b2_0, b2_1, isb_b2, if_true_, if_false_, ↓reduceIte, reduceCtorEq, not_true_eq_false, not_false_eq_true, bt_hasBit, ult, Nat.add_zero, false_and, true_and, and_true, and_false, Nat.reduceLeDiff, Nat.reduceEqDiff, Nat.reduceLT, Bool.toNat_true, Bool.toNat_false, decide_true, decide_false, Bool.not_true, Bool.not_false, Bool.false_and, Bool.true_and, Bool.and_true, Bool.and_false, Bool.or_false, Bool.true_or, Bool.or_true, Bool.false_or, e10, e4, mN_k, show p < 120 by omega]
  by_cases hk : kN (B p) = 0
  · have hsp := hr.spot p
    simp (disch := omega) only [↓ite_b2r, ↓ite_nb2r, ↓lit_m1, ↓lit_m2, lit_0, lit_1, lit_2, lit_3, lit_4, lit_5, lit_6, lit_7, lit_8, lit_9, lit_10, lit_11, lit_12, lit_13, lit_14, lit_15, lit_16, lit_17, lit_18, lit_19, lit_20, lit_21, lit_22, lit_23, lit_24, lit_25, lit_26, lit_27, lit_28, lit_29, lit_30, lit_31, lit_32, lit_33, lit_34, lit_35, lit_36, lit_40, lit_41, lit_42, lit_44, lit_48, lit_57, lit_59, lit_62, lit_63, lit_64, lit_82, lit_98, lit_99, lit_100, lit_101, lit_102, lit_103, lit_104, lit_105, lit_106, lit_107, lit_108, lit_109, lit_110, lit_111, lit_112, lit_113, lit_119, lit_120, lit_127, lit_128, lit_149, lit_150, lit_202, lit_240, lit_262, lit_894, lit_900, lit_999, lit_1000, lit_2000, lit_2662, lit_2663, lit_2695, lit_2701, lit_2702, lit_3602, lit_10806, nI_add, pk_mul, cl_nI, inb_nI, nI_leI, nI_ltI, nI_eq, nI_eq_m1, m1_eq_nI, nI_eq_m2, div_nI, rem_nI, Option.bind_some, b2_0, b2_1, isb_b2, if_true_, if_false_, ↓reduceIte, reduceCtorEq, not_true_eq_false, not_false_eq_true, bt_hasBit, ult, Nat.add_zero, false_and, true_and, and_true, and_false, Nat.reduceLeDiff, Nat.reduceEqDiff, Nat.reduceLT, Bool.toNat_true, Bool.toNat_false, decide_true, decide_false, Bool.not_true, Bool.not_false, Bool.false_and, Bool.true_and, Bool.and_true, Bool.and_false, Bool.or_false, Bool.true_or, Bool.or_true, Bool.false_or, hk, Nat.le_refl, o46_0]
    refine Or.inl ⟨_, p, M, ?_, hsp.1, by omega, pr_fail hT hc.cf hp (cs_letter_no hc hk), hc.cf⟩
    show L_X9_readsOrder_46 (B p) (nI 0) FU (nI 0) (nI 0) _ = _
    rw [show FU = (FU - 1) + 1 from rfl, o46_0]
  · obtain ⟨M1, l1, l2⟩ := cs_letter hc ho hk
    have hpr : ∀ r, PR (p + 1) M1 r → PR p M r := fun r h => pr_step hT hc.cf hp l1 h
    simp (disch := omega) only [↓ite_b2r, ↓ite_nb2r, ↓lit_m1, ↓lit_m2, lit_0, lit_1, lit_2, lit_3, lit_4, lit_5, lit_6, lit_7, lit_8, lit_9, lit_10, lit_11, lit_12, lit_13, lit_14, lit_15, lit_16, lit_17, lit_18, lit_19, lit_20, lit_21, lit_22, lit_23, lit_24, lit_25, lit_26, lit_27, lit_28, lit_29, lit_30, lit_31, lit_32, lit_33, lit_34, lit_35, lit_36, lit_40, lit_41, lit_42, lit_44, lit_48, lit_57, lit_59, lit_62, lit_63, lit_64, lit_82, lit_98, lit_99, lit_100, lit_101, lit_102, lit_103, lit_104, lit_105, lit_106, lit_107, lit_108, lit_109, lit_110, lit_111, lit_112, lit_113, lit_119, lit_120, lit_127, lit_128, lit_149, lit_150, lit_202, lit_240, lit_262, lit_894, lit_900, lit_999, lit_1000, lit_2000, lit_2662, lit_2663, lit_2695, lit_2701, lit_2702, lit_3602, lit_10806, nI_add, pk_mul, cl_nI, inb_nI, nI_leI, nI_ltI, nI_eq, nI_eq_m1, m1_eq_nI, nI_eq_m2, div_nI, rem_nI, Option.bind_some, b2_0, b2_1, isb_b2, if_true_, if_false_, ↓reduceIte, reduceCtorEq, not_true_eq_false, not_false_eq_true, bt_hasBit, ult, Nat.add_zero, false_and, true_and, and_true, and_false, Nat.reduceLeDiff, Nat.reduceEqDiff, Nat.reduceLT, Bool.toNat_true, Bool.toNat_false, decide_true, decide_false, Bool.not_true, Bool.not_false, Bool.false_and, Bool.true_and, Bool.and_true, Bool.and_false, Bool.or_false, Bool.true_or, Bool.or_true, Bool.false_or, show ¬ kN (B p) ≤ 0 by omega]
    have hLo : upd L o (B p) o = B p := upd_same
    generalize hL1 : upd L o (B p) = L1 at l2 hLo
    have hL1q : ∀ q, q < o → L1 q = L q := fun q hq => by rw [← hL1, upd_other (by omega)]
    refine loopI (fun n (σ : Int32 × Int32 × Mem) => L_X9_readsOrder_46 (B p) (nI (kN (B p))) n σ.1 σ.2.1 σ.2.2) (fun w σ => (∃ R' p' M', σ = (nI 0, nI w, R') ∧ RF R0 R' p' ∧ p' ≤ len ∧ PR p M (some (nI p', M')) ∧ CF M0 M') ∨ (∃ R1 p1 M2 st dg V1 Vr1, σ = (nI 1, nI w, R1) ∧ RS R0 R1 p1 o Lr Vr1 ∧ CS M0 M2 st o w dg L1 V1 ∧ ((st = 1 ∧ w = 0) ∨ (st = 3 ∧ (dg = 4 ∨ p1 = len ∨ isD (B p1) = false))) ∧ (∀ x, x < 4 * o → V1 x = V x ∧ Vr1 x = Vr x) ∧ (∀ w', w' < w → V1 (4 * o + w') = Vr1 (4 * o + w')) ∧ p1 ≤ len ∧ p + 1 + 2 * w ≤ p1 ∧ ∀ r, PR p1 M2 r → PR p M r)) (fun out => OrdOut M0 R0 len p M o out) (kN (B p)) (fun n w σ hw hσ => ?_) (fun n σ hσ => ?_) FU (FU_lt (by omega)) (nI 1, nI 0, wr R 7 0 10 (nI (p + 1))) (Or.inr ⟨_, p + 1, M1, 1, 0, V, Vr, rfl, hr.spot (p + 1), l2, Or.inl ⟨rfl, rfl⟩, fun _ _ => ⟨rfl, rfl⟩, fun _ h => absurd h (Nat.not_lt_zero _), by omega, by omega, hpr⟩)
    · rcases hσ with ⟨R', p', M', rfl, f1, f2, f3, f4⟩ | ⟨R1, p1, M2, st, dg, V1, Vr1, rfl, b1, b2', b3, b4, b5, b6, b7, b8⟩
      · exact Or.inl (Or.inl ⟨R', p', M', o46_0 _ _ _ _ _, f1, f2, f3, f4⟩)
      · refine Or.inr ?_
        have hn := rd_num hT ho (by rw [hLo]; exact hw) b3 b1 b2' b6
        have e11 : R1.1 7 0 11 = nI o := b1.2.1
        have eL : ∀ (q : Option (Int32 × Mem)), f_X9_readsNumber (nI (4 * o + w)) R1 = q → L_X9_readsOrder_46 (B p) (nI (kN (B p))) (n + 1) (nI 1) (nI w) R1 = q.bind fun q14 => L_X9_readsOrder_46 (B p) (nI (kN (B p))) n q14.1 (nI (w + 1)) q14.2 := fun q hq => by
          rw [L_X9_readsOrder_46]
          simp (disch := omega) only [↓ite_b2r, ↓ite_nb2r, ↓lit_m1, ↓lit_m2, lit_0, lit_1, lit_2, lit_3, lit_4, lit_5, lit_6, lit_7, lit_8, lit_9, lit_10, lit_11, lit_12, lit_13, lit_14, lit_15, lit_16, lit_17, lit_18, lit_19, lit_20, lit_21, lit_22, lit_23, lit_24, lit_25, lit_26, lit_27, lit_28, lit_29, lit_30, lit_31, lit_32, lit_33, lit_34, lit_35, lit_36, lit_40, lit_41, lit_42, lit_44, lit_48, lit_57, lit_59, lit_62, lit_63, lit_64, lit_82, lit_98, lit_99, lit_100, lit_101, lit_102, lit_103, lit_104, lit_105, lit_106, lit_107, lit_108, lit_109, lit_110, lit_111, lit_112, lit_113, lit_119, lit_120, lit_127, lit_128, lit_149, lit_150, lit_202, lit_240, lit_262, lit_894, lit_900, lit_999, lit_1000, lit_2000, lit_2662, lit_2663, lit_2695, lit_2701, lit_2702, lit_3602, lit_10806, nI_add, pk_mul, cl_nI, inb_nI, nI_leI, nI_ltI, nI_eq, nI_eq_m1, m1_eq_nI, nI_eq_m2, div_nI, rem_nI, Option.bind_some, b2_0, b2_1, isb_b2, if_true_, if_false_, ↓reduceIte, reduceCtorEq, not_true_eq_false, not_false_eq_true, bt_hasBit, ult, Nat.add_zero, false_and, true_and, and_true, and_false, Nat.reduceLeDiff, Nat.reduceEqDiff, Nat.reduceLT, Bool.toNat_true, Bool.toNat_false, decide_true, decide_false, Bool.not_true, Bool.not_false, Bool.false_and, Bool.true_and, Bool.and_true, Bool.and_false, Bool.or_false, Bool.true_or, Bool.or_true, Bool.false_or, Nat.not_le.mpr hw, e11, hq]
        rcases hn with ⟨R', p', M', g1, g2, g3, g4, g5⟩ | ⟨R', p', M', dg', v, V', g1, g2, g3, g4, g5, g6, g7, g8, g9⟩
        · exact ⟨(nI 0, nI (w + 1), R'), eL _ g1, Or.inl ⟨R', p', M', rfl, g2, g3, b8 _ g4, g5⟩⟩
        · refine ⟨(nI 1, nI (w + 1), R'), eL _ g1, Or.inr ⟨R', p', M', 3, dg', V', _, rfl, g2, g3, Or.inr ⟨rfl, g6⟩, fun x hx => ?_, fun w' hw' => ?_, g8, by omega, fun r h => b8 r (g9 r h)⟩⟩
          · rw [g5 x (by omega), upd_other (by omega)]
            exact b4 x hx
          · by_cases h2 : w' = w
            · rw [h2, upd_same, g4]
            · rw [g5 _ (by omega), upd_other (by omega)]
              exact b5 w' (by omega)
    · rcases hσ with ⟨R', p', M', rfl, f1, f2, f3, f4⟩ | ⟨R1, p1, M2, st, dg, V1, Vr1, rfl, b1, b2', b3, b4, b5, b6, b7, b8⟩
      · exact Or.inl ⟨R', p', M', o46_0 _ _ _ _ _, f1, f2, f3, f4⟩
      · have hst : st = 3 ∧ (dg = 4 ∨ p1 = len ∨ isD (B p1) = false) := by
          rcases b3 with h | h
          · omega
          · exact h
        obtain ⟨hst, hstop⟩ := hst
        subst hst
        have h59 := m_isAt hT b1.1 b6 (wi1 (B p1) (a := 59) (by omega))
        have e76 : L_X9_readsOrder_46 (B p) (nI (kN (B p))) (n + 1) (nI 1) (nI (kN (B p))) R1 = if (decide (p1 < len) && decide (B p1 = nI 59)) = true then B_X9_readsOrder_96 (B p) (nI 1) R1 else some (nI 0, R1) := by
          rw [L_X9_readsOrder_46]
          unfold B_X9_readsOrder_76
          cases hz : (decide (p1 < len) && decide (B p1 = nI 59)) with
          | true =>
            rw [hz] at h59
            simp (disch := omega) only [↓ite_b2r, ↓ite_nb2r, ↓lit_m1, ↓lit_m2, lit_0, lit_1, lit_2, lit_3, lit_4, lit_5, lit_6, lit_7, lit_8, lit_9, lit_10, lit_11, lit_12, lit_13, lit_14, lit_15, lit_16, lit_17, lit_18, lit_19, lit_20, lit_21, lit_22, lit_23, lit_24, lit_25, lit_26, lit_27, lit_28, lit_29, lit_30, lit_31, lit_32, lit_33, lit_34, lit_35, lit_36, lit_40, lit_41, lit_42, lit_44, lit_48, lit_57, lit_59, lit_62, lit_63, lit_64, lit_82, lit_98, lit_99, lit_100, lit_101, lit_102, lit_103, lit_104, lit_105, lit_106, lit_107, lit_108, lit_109, lit_110, lit_111, lit_112, lit_113, lit_119, lit_120, lit_127, lit_128, lit_149, lit_150, lit_202, lit_240, lit_262, lit_894, lit_900, lit_999, lit_1000, lit_2000, lit_2662, lit_2663, lit_2695, lit_2701, lit_2702, lit_3602, lit_10806, nI_add, pk_mul, cl_nI, inb_nI, nI_leI, nI_ltI, nI_eq, nI_eq_m1, m1_eq_nI, nI_eq_m2, div_nI, rem_nI, Option.bind_some, b2_0, b2_1, isb_b2, if_true_, if_false_, ↓reduceIte, reduceCtorEq, not_true_eq_false, not_false_eq_true, bt_hasBit, ult, Nat.add_zero, false_and, true_and, and_true, and_false, Nat.reduceLeDiff, Nat.reduceEqDiff, Nat.reduceLT, Bool.toNat_true, Bool.toNat_false, decide_true, decide_false, Bool.not_true, Bool.not_false, Bool.false_and, Bool.true_and, Bool.and_true, Bool.and_false, Bool.or_false, Bool.true_or, Bool.or_true, Bool.false_or, Nat.le_refl, h59]
          | false =>
            rw [hz] at h59
            unfold B_X9_readsOrder_95 B_X9_readsOrder_96
            simp (disch := omega) only [↓ite_b2r, ↓ite_nb2r, ↓lit_m1, ↓lit_m2, lit_0, lit_1, lit_2, lit_3, lit_4, lit_5, lit_6, lit_7, lit_8, lit_9, lit_10, lit_11, lit_12, lit_13, lit_14, lit_15, lit_16, lit_17, lit_18, lit_19, lit_20, lit_21, lit_22, lit_23, lit_24, lit_25, lit_26, lit_27, lit_28, lit_29, lit_30, lit_31, lit_32, lit_33, lit_34, lit_35, lit_36, lit_40, lit_41, lit_42, lit_44, lit_48, lit_57, lit_59, lit_62, lit_63, lit_64, lit_82, lit_98, lit_99, lit_100, lit_101, lit_102, lit_103, lit_104, lit_105, lit_106, lit_107, lit_108, lit_109, lit_110, lit_111, lit_112, lit_113, lit_119, lit_120, lit_127, lit_128, lit_149, lit_150, lit_202, lit_240, lit_262, lit_894, lit_900, lit_999, lit_1000, lit_2000, lit_2662, lit_2663, lit_2695, lit_2701, lit_2702, lit_3602, lit_10806, nI_add, pk_mul, cl_nI, inb_nI, nI_leI, nI_ltI, nI_eq, nI_eq_m1, m1_eq_nI, nI_eq_m2, div_nI, rem_nI, Option.bind_some, b2_0, b2_1, isb_b2, if_true_, if_false_, ↓reduceIte, reduceCtorEq, not_true_eq_false, not_false_eq_true, bt_hasBit, ult, Nat.add_zero, false_and, true_and, and_true, and_false, Nat.reduceLeDiff, Nat.reduceEqDiff, Nat.reduceLT, Bool.toNat_true, Bool.toNat_false, decide_true, decide_false, Bool.not_true, Bool.not_false, Bool.false_and, Bool.true_and, Bool.and_true, Bool.and_false, Bool.or_false, Bool.true_or, Bool.or_true, Bool.false_or, Nat.le_refl, h59] <;> rfl
        show OrdOut M0 R0 len p M o (L_X9_readsOrder_46 (B p) (nI (kN (B p))) (n + 1) (nI 1) (nI (kN (B p))) R1)
        rw [e76]
        by_cases hz : p1 < len ∧ B p1 = nI 59
        · rw [if_pos (by rw [Bool.and_eq_true, decide_eq_true_eq, decide_eq_true_eq]; exact hz)]
          obtain ⟨M3, c1, c2⟩ := cs_end b2' ho hk4 (by rw [hLo])
          have e11 : R1.1 7 0 11 = nI o := b1.2.1
          have e101 : R1.1 7 0 10 = nI p1 := b1.1.1
          have v1 : (wr R1 7 8 o (B p)).1 7 0 11 = nI o := by rw [wr_other _ _ _ _ _ (by omega)]; exact e11
          have v2 : (wr (wr R1 7 8 o (B p)) 7 0 11 (nI (o + 1))).1 7 0 10 = nI p1 := by rw [wr_same, upd_other (by omega), wr_other _ _ _ _ _ (by omega)]; exact e101
          refine Or.inr ⟨_, p1 + 1, M3, L1, V1, _, Vr1, ?_, b1.ord (B p) (p1 + 1), c2, fun q hq => ?_, by omega, by omega, fun r h => b8 r (pr_step hT b2'.cf hz.1 (by rw [hz.2]; exact c1) h)⟩
          · unfold B_X9_readsOrder_96
            simp (disch := omega) only [↓ite_b2r, ↓ite_nb2r, ↓lit_m1, ↓lit_m2, lit_0, lit_1, lit_2, lit_3, lit_4, lit_5, lit_6, lit_7, lit_8, lit_9, lit_10, lit_11, lit_12, lit_13, lit_14, lit_15, lit_16, lit_17, lit_18, lit_19, lit_20, lit_21, lit_22, lit_23, lit_24, lit_25, lit_26, lit_27, lit_28, lit_29, lit_30, lit_31, lit_32, lit_33, lit_34, lit_35, lit_36, lit_40, lit_41, lit_42, lit_44, lit_48, lit_57, lit_59, lit_62, lit_63, lit_64, lit_82, lit_98, lit_99, lit_100, lit_101, lit_102, lit_103, lit_104, lit_105, lit_106, lit_107, lit_108, lit_109, lit_110, lit_111, lit_112, lit_113, lit_119, lit_120, lit_127, lit_128, lit_149, lit_150, lit_202, lit_240, lit_262, lit_894, lit_900, lit_999, lit_1000, lit_2000, lit_2662, lit_2663, lit_2695, lit_2701, lit_2702, lit_3602, lit_10806, nI_add, pk_mul, cl_nI, inb_nI, nI_leI, nI_ltI, nI_eq, nI_eq_m1, m1_eq_nI, nI_eq_m2, div_nI, rem_nI, Option.bind_some, b2_0, b2_1, isb_b2, if_true_, if_false_, ↓reduceIte, reduceCtorEq, not_true_eq_false, not_false_eq_true, bt_hasBit, ult, Nat.add_zero, false_and, true_and, and_true, and_false, Nat.reduceLeDiff, Nat.reduceEqDiff, Nat.reduceLT, Bool.toNat_true, Bool.toNat_false, decide_true, decide_false, Bool.not_true, Bool.not_false, Bool.false_and, Bool.true_and, Bool.and_true, Bool.and_false, Bool.or_false, Bool.true_or, Bool.or_true, Bool.false_or, e11, show o < 40 by omega, v1, v2] <;> rfl
          · by_cases h2 : q = o
            · rw [h2, hLo, upd_same]
              exact ⟨rfl, hk, fun w' hw' => b5 w' hw'⟩
            · rw [hL1q q (by omega), upd_other h2]
              obtain ⟨d1, d2, d3⟩ := hd q (by omega)
              refine ⟨d1, d2, fun w' hw' => ?_⟩
              have hkq := (nA_k (L q)).2
              rw [(b4 _ (by omega)).1, (b4 _ (by omega)).2]
              exact d3 w' hw'
        · rw [if_neg (by rw [Bool.and_eq_true, decide_eq_true_eq, decide_eq_true_eq]; exact hz)]
          refine Or.inl ⟨R1, p1, M2, rfl, b1.1, b6, b8 _ ?_, b2'.cf⟩
          by_cases hl : p1 = len
          · have := pr_end hT b2' (by decide)
            rw [hl]
            exact this
          · refine pr_fail hT b2'.cf (by omega) ?_
            cases hD : isD (B p1) with
            | true =>
              have hd4 : dg = 4 := by
                rcases hstop with h | h | h
                · exact h
                · exact absurd h hl
                · rw [hD] at h; cases h
              subst hd4
              rw [cs_3d b2' hD, cs_dig_no b2']
              rfl
            | false =>
              have hb : B p1 ≠ nI 59 := fun e => hz ⟨by omega, e⟩
              rw [cs_3n b2' ho hk4 hD, if_pos (by rw [hLo])]
              unfold B_X3_takesInNumber_40
              simp (disch := omega) only [↓ite_b2r, ↓ite_nb2r, ↓lit_m1, ↓lit_m2, lit_0, lit_1, lit_2, lit_3, lit_4, lit_5, lit_6, lit_7, lit_8, lit_9, lit_10, lit_11, lit_12, lit_13, lit_14, lit_15, lit_16, lit_17, lit_18, lit_19, lit_20, lit_21, lit_22, lit_23, lit_24, lit_25, lit_26, lit_27, lit_28, lit_29, lit_30, lit_31, lit_32, lit_33, lit_34, lit_35, lit_36, lit_40, lit_41, lit_42, lit_44, lit_48, lit_57, lit_59, lit_62, lit_63, lit_64, lit_82, lit_98, lit_99, lit_100, lit_101, lit_102, lit_103, lit_104, lit_105, lit_106, lit_107, lit_108, lit_109, lit_110, lit_111, lit_112, lit_113, lit_119, lit_120, lit_127, lit_128, lit_149, lit_150, lit_202, lit_240, lit_262, lit_894, lit_900, lit_999, lit_1000, lit_2000, lit_2662, lit_2663, lit_2695, lit_2701, lit_2702, lit_3602, lit_10806, nI_add, pk_mul, cl_nI, inb_nI, nI_leI, nI_ltI, nI_eq, nI_eq_m1, m1_eq_nI, nI_eq_m2, div_nI, rem_nI, Option.bind_some, b2_0, b2_1, isb_b2, if_true_, if_false_, ↓reduceIte, reduceCtorEq, not_true_eq_false, not_false_eq_true, bt_hasBit, ult, Nat.add_zero, false_and, true_and, and_true, and_false, Nat.reduceLeDiff, Nat.reduceEqDiff, Nat.reduceLT, Bool.toNat_true, Bool.toNat_false, decide_true, decide_false, Bool.not_true, Bool.not_false, Bool.false_and, Bool.true_and, Bool.and_true, Bool.and_false, Bool.or_false, Bool.true_or, Bool.or_true, Bool.false_or, hb] <;> rfl
theorem parse_both {M R : Mem} (hT : TE M R len B) : (∃ M' R' o L V Lr Vr, f_X3_parse M = some (mI, M') ∧ f_X9_reads R = some (nI 1, R') ∧ RS R R' len o Lr Vr ∧ CS M M' 0 o 0 0 L V ∧ DN L V Lr Vr o ∧ o ≤ 30) ∨ (∃ M' R' p, f_X3_parse M = some (nI p, M') ∧ f_X9_reads R = some (nI 0, R') ∧ RF R R' p ∧ CF M M' ∧ p ≤ len) := by
  have ht1 := hT.1
  have hS : CS M (wr (wr M 6 3 4 (nI 0)) 6 3 5 (nI 0)) 0 0 0 0 (M.1 6 5) (M.1 6 6) := ⟨by rw [wr_same, upd_other (by omega), wr_same, upd_same], by rw [wr_same, upd_same], fun h => absurd rfl h, fun h => absurd h (by omega), by rw [wr_other _ _ _ _ _ (by omega), wr_other _ _ _ _ _ (by omega)], by rw [wr_other _ _ _ _ _ (by omega), wr_other _ _ _ _ _ (by omega)], by rw [wr_same, upd_other (by omega), wr_same, upd_other (by omega)], fun j h1 h2 h3 => by rw [wr_other _ _ _ _ _ (by omega), wr_other _ _ _ _ _ (by omega)], fun g hg => by rw [wr_ng _ _ _ _ hg, wr_ng _ _ _ _ hg], by rw [wr_2, wr_2]⟩
  have hR0 : RS R (wr (wr R 7 0 10 (nI 0)) 7 0 11 (nI 0)) 0 0 (R.1 7 8) (R.1 7 9) := ⟨⟨by rw [wr_same, upd_other (by omega), wr_same, upd_same], fun j h1 h2 h3 => by rw [wr_other _ _ _ _ _ (by omega), wr_other _ _ _ _ _ (by omega)], fun i h1 h2 => by rw [wr_same, upd_other (by omega), wr_same, upd_other (by omega)], fun g hg => by rw [wr_ng _ _ _ _ hg, wr_ng _ _ _ _ hg], by rw [wr_2, wr_2]⟩, by rw [wr_same, upd_same], by rw [wr_other _ _ _ _ _ (by omega), wr_other _ _ _ _ _ (by omega)], by rw [wr_other _ _ _ _ _ (by omega), wr_other _ _ _ _ _ (by omega)]⟩
  generalize hM1 : wr (wr M 6 3 4 (nI 0)) 6 3 5 (nI 0) = M1 at hS
  generalize hR1 : wr (wr R 7 0 10 (nI 0)) 7 0 11 (nI 0) = R1 at hR0
  have key := loopI (fun n (σ : Int32 × Mem) => L_X9_reads_12 n σ.1 σ.2) (fun o σ => (∃ R' M' p, σ = (nI 0, R') ∧ RF R R' p ∧ p ≤ len ∧ PR 0 M1 (some (nI p, M')) ∧ CF M M') ∨ (∃ R' M' p L V Lr Vr, σ = (nI 1, R') ∧ RS R R' p o Lr Vr ∧ CS M M' 0 o 0 0 L V ∧ DN L V Lr Vr o ∧ 4 * o ≤ p ∧ p ≤ len ∧ ∀ r, PR p M' r → PR 0 M1 r)) (fun out => (∃ R' M' p, out = some (nI 0, R') ∧ RF R R' p ∧ p ≤ len ∧ PR 0 M1 (some (nI p, M')) ∧ CF M M') ∨ (∃ R' M' o L V Lr Vr, out = some (nI 1, R') ∧ RS R R' len o Lr Vr ∧ CS M M' 0 o 0 0 L V ∧ DN L V Lr Vr o ∧ o ≤ 30 ∧ PR 0 M1 (some (mI, M')))) 31 (fun n o σ ho hσ => ?_) (fun n σ hσ => ?_) FU (by decide) (nI 1, R1) (Or.inr ⟨R1, M1, 0, _, _, _, _, rfl, hR0, hS, fun _ h => absurd h (Nat.not_lt_zero _), by omega, by omega, fun _ h => h⟩)
  · have hP : ∀ r, PR 0 M1 r → f_X3_parse M = r := fun r h => by
      have := h FU (by decide)
      unfold f_X3_parse
      rw [show wr (wr M 6 3 4 (0 : Int32)) 6 3 5 (0 : Int32) = M1 from hM1]
      exact this
    have hRd : f_X9_reads R = L_X9_reads_12 FU (nI 1) R1 := by
      unfold f_X9_reads
      rw [show wr (wr R 7 0 10 (0 : Int32)) 7 0 11 (0 : Int32) = R1 from hR1]
      rfl
    rcases key with ⟨R', M', p, a1, a2, a3, a4, a5⟩ | ⟨R', M', o, L, V, Lr, Vr, a1, a2, a3, a4, a5, a6⟩
    · exact Or.inr ⟨M', R', p, hP _ a4, hRd.trans a1, a2, a5, a3⟩
    · exact Or.inl ⟨M', R', o, L, V, Lr, Vr, hP _ a6, hRd.trans a1, a2, a3, a4, a5⟩
  · have hfl : ∀ R', L_X9_reads_12 (n + 1) (nI 0) R' = some (nI 0, R') := fun R' => by
      rw [L_X9_reads_12]
      simp (disch := omega) only [↓ite_b2r, ↓ite_nb2r, ↓lit_m1, ↓lit_m2, lit_0, lit_1, lit_2, lit_3, lit_4, lit_5, lit_6, lit_7, lit_8, lit_9, lit_10, lit_11, lit_12, lit_13, lit_14, lit_15, lit_16, lit_17, lit_18, lit_19, lit_20, lit_21, lit_22, lit_23, lit_24, lit_25, lit_26, lit_27, lit_28, lit_29, lit_30, lit_31, lit_32, lit_33, lit_34, lit_35, lit_36, lit_40, lit_41, lit_42, lit_44, lit_48, lit_57, lit_59, lit_62, lit_63, lit_64, lit_82, lit_98, lit_99, lit_100, lit_101, lit_102, lit_103, lit_104, lit_105, lit_106, lit_107, lit_108, lit_109, lit_110, lit_111, lit_112, lit_113, lit_119, lit_120, lit_127, lit_128, lit_149, lit_150, lit_202, lit_240, lit_262, lit_894, lit_900, lit_999, lit_1000, lit_2000, lit_2662, lit_2663, lit_2695, lit_2701, lit_2702, lit_3602, lit_10806, nI_add, pk_mul, cl_nI, inb_nI, nI_leI, nI_ltI, nI_eq, nI_eq_m1, m1_eq_nI, nI_eq_m2, div_nI, rem_nI, Option.bind_some, b2_0, b2_1, isb_b2, if_true_, if_false_, ↓reduceIte, reduceCtorEq, not_true_eq_false, not_false_eq_true, bt_hasBit, ult, Nat.add_zero, false_and, true_and, and_true, and_false, Nat.reduceLeDiff, Nat.reduceEqDiff, Nat.reduceLT, Bool.toNat_true, Bool.toNat_false, decide_true, decide_false, Bool.not_true, Bool.not_false, Bool.false_and, Bool.true_and, Bool.and_true, Bool.and_false, Bool.or_false, Bool.true_or, Bool.or_true, Bool.false_or] <;> rfl
    rcases hσ with ⟨R', M', p, rfl, a2, a3, a4, a5⟩ | ⟨R', M', p, L, V, Lr, Vr, rfl, b1, b2', b3, b4, b5, b6⟩
    · exact Or.inl (Or.inl ⟨R', M', p, hfl R', a2, a3, a4, a5⟩)
    · have e6 : R'.1 7 0 6 = nI len := (b1.1.2.2.1 6 (by omega) (by omega)).trans hT.2.2.2.1
      have e10 := b1.1.1
      by_cases hp : p = len
      · refine Or.inl (Or.inr ⟨R', M', o, L, V, Lr, Vr, ?_, by rw [← hp]; exact b1, b2', b3, by omega, b6 _ ?_⟩)
        · show L_X9_reads_12 (n + 1) (nI 1) R' = _
          rw [L_X9_reads_12]
          simp (disch := omega) only [↓ite_b2r, ↓ite_nb2r, ↓lit_m1, ↓lit_m2, lit_0, lit_1, lit_2, lit_3, lit_4, lit_5, lit_6, lit_7, lit_8, lit_9, lit_10, lit_11, lit_12, lit_13, lit_14, lit_15, lit_16, lit_17, lit_18, lit_19, lit_20, lit_21, lit_22, lit_23, lit_24, lit_25, lit_26, lit_27, lit_28, lit_29, lit_30, lit_31, lit_32, lit_33, lit_34, lit_35, lit_36, lit_40, lit_41, lit_42, lit_44, lit_48, lit_57, lit_59, lit_62, lit_63, lit_64, lit_82, lit_98, lit_99, lit_100, lit_101, lit_102, lit_103, lit_104, lit_105, lit_106, lit_107, lit_108, lit_109, lit_110, lit_111, lit_112, lit_113, lit_119, lit_120, lit_127, lit_128, lit_149, lit_150, lit_202, lit_240, lit_262, lit_894, lit_900, lit_999, lit_1000, lit_2000, lit_2662, lit_2663, lit_2695, lit_2701, lit_2702, lit_3602, lit_10806, nI_add, pk_mul, cl_nI, inb_nI, nI_leI, nI_ltI, nI_eq, nI_eq_m1, m1_eq_nI, nI_eq_m2, div_nI, rem_nI, Option.bind_some, b2_0, b2_1, isb_b2, if_true_, if_false_, ↓reduceIte, reduceCtorEq, not_true_eq_false, not_false_eq_true, bt_hasBit, ult, Nat.add_zero, false_and, true_and, and_true, and_false, Nat.reduceLeDiff, Nat.reduceEqDiff, Nat.reduceLT, Bool.toNat_true, Bool.toNat_false, decide_true, decide_false, Bool.not_true, Bool.not_false, Bool.false_and, Bool.true_and, Bool.and_true, Bool.and_false, Bool.or_false, Bool.true_or, Bool.or_true, Bool.false_or, e6, e10, show len ≤ p by omega] <;> rfl
        · have := pr_end hT b2' (by decide)
          rw [hp]
          exact this
      · have hord := rd_order hT (by omega) b1 b2' b3 (show p < len by omega)
        have eL : ∀ q, f_X9_readsOrder R' = q → L_X9_reads_12 (n + 1) (nI 1) R' = q.bind fun q5 => L_X9_reads_12 n q5.1 q5.2 := fun q hq => by
          rw [L_X9_reads_12]
          simp (disch := omega) only [↓ite_b2r, ↓ite_nb2r, ↓lit_m1, ↓lit_m2, lit_0, lit_1, lit_2, lit_3, lit_4, lit_5, lit_6, lit_7, lit_8, lit_9, lit_10, lit_11, lit_12, lit_13, lit_14, lit_15, lit_16, lit_17, lit_18, lit_19, lit_20, lit_21, lit_22, lit_23, lit_24, lit_25, lit_26, lit_27, lit_28, lit_29, lit_30, lit_31, lit_32, lit_33, lit_34, lit_35, lit_36, lit_40, lit_41, lit_42, lit_44, lit_48, lit_57, lit_59, lit_62, lit_63, lit_64, lit_82, lit_98, lit_99, lit_100, lit_101, lit_102, lit_103, lit_104, lit_105, lit_106, lit_107, lit_108, lit_109, lit_110, lit_111, lit_112, lit_113, lit_119, lit_120, lit_127, lit_128, lit_149, lit_150, lit_202, lit_240, lit_262, lit_894, lit_900, lit_999, lit_1000, lit_2000, lit_2662, lit_2663, lit_2695, lit_2701, lit_2702, lit_3602, lit_10806, nI_add, pk_mul, cl_nI, inb_nI, nI_leI, nI_ltI, nI_eq, nI_eq_m1, m1_eq_nI, nI_eq_m2, div_nI, rem_nI, Option.bind_some, b2_0, b2_1, isb_b2, if_true_, if_false_, ↓reduceIte, reduceCtorEq, not_true_eq_false, not_false_eq_true, bt_hasBit, ult, Nat.add_zero, false_and, true_and, and_true, and_false, Nat.reduceLeDiff, Nat.reduceEqDiff, Nat.reduceLT, Bool.toNat_true, Bool.toNat_false, decide_true, decide_false, Bool.not_true, Bool.not_false, Bool.false_and, Bool.true_and, Bool.and_true, Bool.and_false, Bool.or_false, Bool.true_or, Bool.or_true, Bool.false_or, e6, e10, show ¬ len ≤ p by omega, hq]
        refine Or.inr ?_
        rcases hord with ⟨R2, p', M2, g1, g2, g3, g4, g5⟩ | ⟨R2, p', M2, L', V', Lr', Vr', g1, g2, g3, g4, g5, g6, g7⟩
        · exact ⟨(nI 0, R2), eL _ g1, Or.inl ⟨R2, M2, p', rfl, g2, g3, b6 _ g4, g5⟩⟩
        · exact ⟨(nI 1, R2), eL _ g1, Or.inr ⟨R2, M2, p', L', V', Lr', Vr', rfl, g2, g3, g4, by omega, g6, fun r h => b6 r (g7 r h)⟩⟩
  · have hfl : ∀ R', L_X9_reads_12 (n + 1) (nI 0) R' = some (nI 0, R') := fun R' => by
      rw [L_X9_reads_12]
      simp (disch := omega) only [↓ite_b2r, ↓ite_nb2r, ↓lit_m1, ↓lit_m2, lit_0, lit_1, lit_2, lit_3, lit_4, lit_5, lit_6, lit_7, lit_8, lit_9, lit_10, lit_11, lit_12, lit_13, lit_14, lit_15, lit_16, lit_17, lit_18, lit_19, lit_20, lit_21, lit_22, lit_23, lit_24, lit_25, lit_26, lit_27, lit_28, lit_29, lit_30, lit_31, lit_32, lit_33, lit_34, lit_35, lit_36, lit_40, lit_41, lit_42, lit_44, lit_48, lit_57, lit_59, lit_62, lit_63, lit_64, lit_82, lit_98, lit_99, lit_100, lit_101, lit_102, lit_103, lit_104, lit_105, lit_106, lit_107, lit_108, lit_109, lit_110, lit_111, lit_112, lit_113, lit_119, lit_120, lit_127, lit_128, lit_149, lit_150, lit_202, lit_240, lit_262, lit_894, lit_900, lit_999, lit_1000, lit_2000, lit_2662, lit_2663, lit_2695, lit_2701, lit_2702, lit_3602, lit_10806, nI_add, pk_mul, cl_nI, inb_nI, nI_leI, nI_ltI, nI_eq, nI_eq_m1, m1_eq_nI, nI_eq_m2, div_nI, rem_nI, Option.bind_some, b2_0, b2_1, isb_b2, if_true_, if_false_, ↓reduceIte, reduceCtorEq, not_true_eq_false, not_false_eq_true, bt_hasBit, ult, Nat.add_zero, false_and, true_and, and_true, and_false, Nat.reduceLeDiff, Nat.reduceEqDiff, Nat.reduceLT, Bool.toNat_true, Bool.toNat_false, decide_true, decide_false, Bool.not_true, Bool.not_false, Bool.false_and, Bool.true_and, Bool.and_true, Bool.and_false, Bool.or_false, Bool.true_or, Bool.or_true, Bool.false_or] <;> rfl
    rcases hσ with ⟨R', M', p, rfl, a2, a3, a4, a5⟩ | ⟨R', M', p, L, V, Lr, Vr, rfl, b1, b2', b3, b4, b5, b6⟩
    · exact Or.inl ⟨R', M', p, hfl R', a2, a3, a4, a5⟩
    · omega
end PO
