/-! ===== orders: the text is typed and read ===== -/
section OO
variable {N : Row} {S : List Row} {T : List Nat} {M : Mem}
def dg3 (a : Nat) : List Nat := [32, 48 + a / 100 % 10, 48 + a / 10 % 10, 48 + a % 10]
theorem nI_np {n : Nat} (h : n + 1 < 2147483648) : ¬ nI (n + 1) ≤ 0 := fun z => by
  have z2 : nI (n + 1) ≤ nI 0 := z
  rw [nI_leI (by omega) (by omega)] at z2
  omega
theorem dgt (x : Nat) (hx : x < 1000) : (48 : Int32) + ireM (nI x) (10 : Int32) = nI (48 + x % 10) := by
  rw [show (10 : Int32) = nI 10 from rfl, rem_nI (by omega) (by omega) (by omega), show (48 : Int32) = nI 48 from rfl, nI_add]
theorem dgq (x d : Nat) (hx : x < 1000) (h0 : 0 < d) (hd : d < 1000) : nI x / nI d = nI (x / d) := div_nI (by omega) h0 (by omega)
theorem p_num (k : Int32 → Int32 → Mem → Option (Int32 × Mem)) (x2 x3 x4 x5 x6 x8 : Int32) {a : Nat} (ha : a < 1000) (hl : T.length + 4 ≤ 120) (h : De N S T M) : ∃ M', B_L_types_62 k x2 x3 x4 x5 x6 x8 (nI a) M = k 1 (x8 + 1) M' ∧ De N S (T ++ dg3 a) M' := by
  obtain ⟨M1, a1, h1⟩ := e_append (v := 32) (by omega) (by omega) h
  obtain ⟨M2, a2, h2⟩ := e_append (v := 48 + a / 100 % 10) (by omega) (by rw [List.length_append]; show T.length + 1 < 120; omega) h1
  obtain ⟨M3, a3, h3⟩ := e_append (v := 48 + a / 10 % 10) (by omega) (by rw [List.length_append, List.length_append]; show T.length + 1 + 1 < 120; omega) h2
  obtain ⟨M4, a4, h4⟩ := e_append (v := 48 + a % 10) (by omega) (by rw [List.length_append, List.length_append, List.length_append]; show T.length + 1 + 1 + 1 < 120; omega) h3
  refine ⟨M4, ?_, ?_⟩
  · unfold B_L_types_62
    rw [show f_L_append 32 M = _ from a1, Option.bind_some]
    dsimp only
    rw [if_neg (nI_np (by omega)), show (100 : Int32) = nI 100 from rfl, dgq a 100 ha (by omega) (by omega), dgt (a / 100) (by omega), a2, Option.bind_some]
    dsimp only
    rw [if_neg (nI_np (by rw [List.length_append]; show T.length + 1 + 1 < _; omega)), show (10 : Int32) = nI 10 from rfl, dgq a 10 ha (by omega) (by omega), show (48 : Int32) + ireM (nI (a / 10)) (nI 10) = _ from dgt (a / 10) (by omega), a3, Option.bind_some]
    dsimp only
    rw [if_neg (nI_np (by rw [List.length_append, List.length_append]; show T.length + 1 + 1 + 1 < _; omega)), show (48 : Int32) + ireM (nI a) (nI 10) = _ from dgt a ha, a4, Option.bind_some]
    dsimp only
    rw [if_neg (nI_np (by rw [List.length_append, List.length_append, List.length_append]; show T.length + 1 + 1 + 1 + 1 < _; omega))]
    rfl
  · rw [List.append_assoc, List.append_assoc, List.append_assoc] at h4
    exact h4
theorem p_semi (hl : T.length < 120) (h : De N S T M) : ∃ M', B_L_types_137 1 M = some (1, M') ∧ De N S (T ++ [59]) M' := by
  obtain ⟨M1, a1, h1⟩ := e_append (v := 59) (by omega) hl h
  refine ⟨M1, ?_, h1⟩
  unfold B_L_types_137
  rw [if_neg (show ¬ (1 : Int32) = 0 by decide), show f_L_append 59 M = _ from a1, Option.bind_some]
  dsimp only
  rw [if_neg (nI_np (by omega))]
theorem dg3_len (a : Nat) : (dg3 a).length = 4 := rfl
theorem p_types1 {x a : Nat} (hx : x < 128) (ha : a < 1000) (hl : T.length + 6 ≤ 120) (h : De N S T M) : ∃ M', f_L_types (nI x) 1 (nI a) 0 0 0 M = some (1, M') ∧ De N S (T ++ [x] ++ dg3 a ++ [59]) M' := by
  obtain ⟨M1, a1, h1⟩ := e_append (v := x) hx (by omega) h
  have e1 : (T ++ [x]).length = T.length + 1 := List.length_append
  obtain ⟨M2, a2, h2⟩ := p_num (L_L_types_18 1 (nI a) 0 0 0 5) 1 (nI a) 0 0 0 0 ha (by rw [e1]; omega) h1
  have e2 : (T ++ [x] ++ dg3 a).length = T.length + 5 := by rw [List.length_append, e1]; rfl
  obtain ⟨M3, a3, h3⟩ := p_semi (by rw [e2]; omega) h2
  refine ⟨M3, ?_, h3⟩
  unfold f_L_types
  rw [a1, Option.bind_some]
  dsimp only
  rw [if_neg (nI_np (by omega))]
  unfold B_L_types_13
  rw [L_L_types_18, if_neg (show ¬ (1 : Int32) ≤ 0 by decide), if_neg (show ¬ (1 : Int32) = 0 by decide), if_pos rfl, a2, L_L_types_18, if_pos (show (1 : Int32) ≤ 0 + 1 by decide), a3]
theorem p_types4 {x a b c d : Nat} (hx : x < 128) (ha : a < 1000) (hb : b < 1000) (hc : c < 1000) (hd : d < 1000) (hl : T.length + 18 ≤ 120) (h : De N S T M) : ∃ M', f_L_types (nI x) 4 (nI a) (nI b) (nI c) (nI d) M = some (1, M') ∧ De N S (T ++ [x] ++ dg3 a ++ dg3 b ++ dg3 c ++ dg3 d ++ [59]) M' := by
  obtain ⟨M1, a1, h1⟩ := e_append (v := x) hx (by omega) h
  have e1 : (T ++ [x]).length = T.length + 1 := List.length_append
  obtain ⟨M2, a2, h2⟩ := p_num (L_L_types_18 4 (nI a) (nI b) (nI c) (nI d) 5) 4 (nI a) (nI b) (nI c) (nI d) 0 ha (by rw [e1]; omega) h1
  have e2 : (T ++ [x] ++ dg3 a).length = T.length + 5 := by rw [List.length_append, e1]; rfl
  obtain ⟨M3, a3, h3⟩ := p_num (L_L_types_18 4 (nI a) (nI b) (nI c) (nI d) 4) 4 (nI a) (nI b) (nI c) (nI d) (0 + 1) hb (by rw [e2]; omega) h2
  have e3 : (T ++ [x] ++ dg3 a ++ dg3 b).length = T.length + 9 := by rw [List.length_append, e2]; rfl
  obtain ⟨M4, a4, h4⟩ := p_num (L_L_types_18 4 (nI a) (nI b) (nI c) (nI d) 3) 4 (nI a) (nI b) (nI c) (nI d) (0 + 1 + 1) hc (by rw [e3]; omega) h3
  have e4 : (T ++ [x] ++ dg3 a ++ dg3 b ++ dg3 c).length = T.length + 13 := by rw [List.length_append, e3]; rfl
  obtain ⟨M5, a5, h5⟩ := p_num (L_L_types_18 4 (nI a) (nI b) (nI c) (nI d) 2) 4 (nI a) (nI b) (nI c) (nI d) (0 + 1 + 1 + 1) hd (by rw [e4]; omega) h4
  have e5 : (T ++ [x] ++ dg3 a ++ dg3 b ++ dg3 c ++ dg3 d).length = T.length + 17 := by rw [List.length_append, e4]; rfl
  obtain ⟨M6, a6, h6⟩ := p_semi (by rw [e5]; omega) h5
  refine ⟨M6, ?_, h6⟩
  unfold f_L_types
  rw [a1, Option.bind_some]
  dsimp only
  rw [if_neg (nI_np (by omega))]
  unfold B_L_types_13
  have z : ¬ (1 : Int32) = 0 := by decide
  rw [L_L_types_18, if_neg (show ¬ (4 : Int32) ≤ 0 by decide), if_neg z, if_pos rfl, a2]
  rw [L_L_types_18, if_neg (show ¬ (4 : Int32) ≤ 0 + 1 by decide), if_neg z, if_neg (show ¬ (0 + 1 : Int32) = 0 by decide), if_pos (show (0 + 1 : Int32) = 1 by decide), a3]
  rw [L_L_types_18, if_neg (show ¬ (4 : Int32) ≤ 0 + 1 + 1 by decide), if_neg z, if_neg (show ¬ (0 + 1 + 1 : Int32) = 0 by decide), if_neg (show ¬ (0 + 1 + 1 : Int32) = 1 by decide), if_pos (show (0 + 1 + 1 : Int32) = 2 by decide), a4]
  rw [L_L_types_18, if_neg (show ¬ (4 : Int32) ≤ 0 + 1 + 1 + 1 by decide), if_neg z, if_neg (show ¬ (0 + 1 + 1 + 1 : Int32) = 0 by decide), if_neg (show ¬ (0 + 1 + 1 + 1 : Int32) = 1 by decide), if_neg (show ¬ (0 + 1 + 1 + 1 : Int32) = 2 by decide), a5]
  rw [L_L_types_18, if_pos (show (4 : Int32) ≤ 0 + 1 + 1 + 1 + 1 by decide), a6]
theorem dgv {v d : Nat} (hv : v < 1000) : nI v * nI 10 + nI (48 + d) - nI 48 = nI (10 * v + d) := by
  rw [pk_mul, nI_add, pk_sub (by omega)]
  exact congrArg nI (by omega)
theorem isD_d {d : Nat} (hd : d < 10) : isD (nI (48 + d)) = true := by
  unfold isD
  have h1 : ¬ nI (48 + d) < nI 48 := fun z => by rw [nI_ltI (by omega) (by omega)] at z; omega
  have h2 : ¬ nI 57 < nI (48 + d) := fun z => by rw [nI_ltI (by omega) (by omega)] at z; omega
  rw [decide_eq_false h1, decide_eq_false h2]
  rfl
theorem ps_dig {M0 M R0 : Mem} {len : Nat} {B L V : Nat → Int32} {st o w dg p : Nat} (hT : TE M0 R0 len B) (hc : CS M0 M st o (w + 1) dg L V) (hst : st = 2 ∨ st = 3) (ho : o < 30) (hw : w < 4) (hd : dg < 4) {v x : Nat} (hv : v < 1000) (hx : x < 10) (hV : V (4 * o + w) = nI v) (hp : p < len) (hB : B p = nI (48 + x)) : ∃ M' V', CS M0 M' 3 o (w + 1) (dg + 1) L V' ∧ V' (4 * o + w) = nI (10 * v + x) ∧ (∀ y, y ≠ 4 * o + w → V' y = V y) ∧ ∀ r, PR (p + 1) M' r → PR p M r := by
  obtain ⟨M1, d1, d2⟩ := cs_dig (nu := w) hst hc ho hw hd (nI (48 + x))
  refine ⟨M1, _, d2, by rw [upd_same, hV, dgv hv], fun y hy => upd_other hy, fun r h => pr_step hT hc.cf hp ?_ h⟩
  rw [hB]
  rcases hst with rfl | rfl
  · rw [cs_2 hc, if_pos (isD_d hx), d1]
    rfl
  · rw [cs_3d hc (isD_d hx), d1]
    rfl
theorem ps_num {M0 M R0 : Mem} {len : Nat} {B L V : Nat → Int32} {st o w dg p : Nat} (hT : TE M0 R0 len B) (hc : CS M0 M st o w dg L V) (ho : o < 30) (hw : w < kN (L o)) (hst : (st = 1 ∧ w = 0) ∨ st = 3) {a : Nat} (ha : a < 1000) (hp : p + 4 ≤ len) (q0 : B p = nI 32) (q1 : B (p + 1) = nI (48 + a / 100 % 10)) (q2 : B (p + 2) = nI (48 + a / 10 % 10)) (q3 : B (p + 3) = nI (48 + a % 10)) : ∃ M' V', CS M0 M' 3 o (w + 1) 3 L V' ∧ V' (4 * o + w) = nI a ∧ (∀ y, y ≠ 4 * o + w → V' y = V y) ∧ ∀ r, PR (p + 4) M' r → PR p M r := by
  have hk4 := (nA_k (L o)).2
  have hw4 : w < 4 := by omega
  obtain ⟨M1, s1, s2⟩ := cs_sp (st := st) (by rcases hst with h | h <;> omega) hc ho hw4
  have htk : f_X3_takes (B p) M = some (nI 1, M1) := by
    rw [q0]
    rcases hst with ⟨h1, h2⟩ | h1
    · subst h1
      rw [cs_1 hc, s1]
      rfl
    · subst h1
      rw [cs_3n hc ho (by omega) (by decide), if_neg (by omega)]
      unfold B_X3_takesInNumber_40
      simp (disch := omega) only [↓ite_b2r, ↓ite_nb2r, ↓lit_m1, ↓lit_m2, lit_0, lit_1, lit_2, lit_3, lit_4, lit_5, lit_6, lit_7, lit_8, lit_9, lit_10, lit_11, lit_12, lit_13, lit_14, lit_15, lit_16, lit_17, lit_18, lit_19, lit_20, lit_21, lit_22, lit_23, lit_24, lit_25, lit_26, lit_27, lit_28, lit_29, lit_30, lit_31, lit_32, lit_33, lit_34, lit_35, lit_36, lit_40, lit_41, lit_42, lit_44, lit_48, lit_57, lit_59, lit_62, lit_63, lit_64, lit_82, lit_98, lit_99, lit_100, lit_101, lit_102, lit_103, lit_104, lit_105, lit_106, lit_107, lit_108, lit_109, lit_110, lit_111, lit_112, lit_113, lit_119, lit_120, lit_127, lit_128, lit_149, lit_150, lit_202, lit_240, lit_262, lit_894, lit_900, lit_999, lit_1000, lit_2000, lit_2662, lit_2663, lit_2695, lit_2701, lit_2702, lit_3602, lit_10806, nI_add, pk_mul, cl_nI, inb_nI, nI_leI, nI_ltI, nI_eq, nI_eq_m1, m1_eq_nI, nI_eq_m2, div_nI, rem_nI, Option.bind_some, b2_0, b2_1, isb_b2, if_true_, if_false_, ↓reduceIte, reduceCtorEq, not_true_eq_false, not_false_eq_true, bt_hasBit, ult, Nat.add_zero, false_and, true_and, and_true, and_false, Nat.reduceLeDiff, Nat.reduceEqDiff, Nat.reduceLT, Bool.toNat_true, Bool.toNat_false, decide_true, decide_false, Bool.not_true, Bool.not_false, Bool.false_and, Bool.true_and, Bool.and_true, Bool.and_false, Bool.or_false, Bool.true_or, Bool.or_true, Bool.false_or, s1] <;> rfl
  obtain ⟨M2, V2, c2, v2, w2, r2⟩ := ps_dig hT s2 (Or.inl rfl) ho hw4 (by omega) (v := 0) (x := a / 100 % 10) (by omega) (by omega) upd_same (by omega) q1
  obtain ⟨M3, V3, c3, v3, w3, r3⟩ := ps_dig hT c2 (Or.inr rfl) ho hw4 (by omega) (v := 10 * 0 + a / 100 % 10) (x := a / 10 % 10) (by omega) (by omega) v2 (by omega) q2
  obtain ⟨M4, V4, c4, v4, w4, r4⟩ := ps_dig hT c3 (Or.inr rfl) ho hw4 (by omega) (v := 10 * (10 * 0 + a / 100 % 10) + a / 10 % 10) (x := a % 10) (by omega) (by omega) v3 (by omega) q3
  refine ⟨M4, V4, c4, ?_, fun y hy => by rw [w4 y hy, w3 y hy, w2 y hy, upd_other hy], fun r h => pr_step hT hc.cf (by omega) htk (r2 r (r3 r (r4 r h)))⟩
  rw [v4]
  exact congrArg nI (by omega)
def txt (p u s t e c : Nat) : List Nat := [112, 32, 48 + p / 100 % 10, 48 + p / 10 % 10, 48 + p % 10, 59, 113, 32, 48 + u / 100 % 10, 48 + u / 10 % 10, 48 + u % 10, 32, 48 + s / 100 % 10, 48 + s / 10 % 10, 48 + s % 10, 32, 48 + t / 100 % 10, 48 + t / 10 % 10, 48 + t % 10, 32, 48 + e / 100 % 10, 48 + e / 10 % 10, 48 + e % 10, 59, 98, 32, 48 + c / 100 % 10, 48 + c / 10 % 10, 48 + c % 10, 59]
theorem txt_eq (p u s t e c : Nat) : [] ++ [112] ++ dg3 p ++ [59] ++ [113] ++ dg3 u ++ dg3 s ++ dg3 t ++ dg3 e ++ [59] ++ [98] ++ dg3 c ++ [59] = txt p u s t e c := rfl
theorem kN_112 : kN (nI 112) = 1 := by decide
theorem kN_113 : kN (nI 113) = 4 := by decide
theorem kN_98 : kN (nI 98) = 1 := by decide
theorem p_parse {p u s t e c : Nat} (hp : p < 1000) (hu : u < 1000) (hs : s < 1000) (ht : t < 1000) (he : e < 1000) (hc : c < 1000) (h : TxD M (txt p u s t e c)) : ∃ M' L V, f_X3_parse M = some (mI, M') ∧ CS M M' 0 3 0 0 L V ∧ L 0 = nI 112 ∧ L 1 = nI 113 ∧ L 2 = nI 98 ∧ V 0 = nI p ∧ V 4 = nI u ∧ V 5 = nI s ∧ V 6 = nI t ∧ V 7 = nI e ∧ V 8 = nI c := by
  obtain ⟨-, l2, l3⟩ := h
  have l2 : M.1 6 3 1 = nI 30 := l2
  have hB : ∀ i v, (txt p u s t e c)[i]? = some v → M.1 6 4 i = nI v := fun i v hv => (l3 i v hv).1
  clear l3
  have hT : TE M (wrs (wr M 7 0 6 (nI 30)) 7 4 (M.1 6 4)) 30 (M.1 6 4) := ⟨by decide, l2, fun _ _ => rfl, by rw [wrs_other _ _ _ _ (by omega), wr_same, upd_same], fun i _ => by rw [wrs_same]⟩
  generalize wrs (wr M 7 0 6 (nI 30)) 7 4 (M.1 6 4) = R0 at hT
  have hS : CS M (wr (wr M 6 3 4 (nI 0)) 6 3 5 (nI 0)) 0 0 0 0 (M.1 6 5) (M.1 6 6) := ⟨by rw [wr_same, upd_other (by omega), wr_same, upd_same], by rw [wr_same, upd_same], fun h => absurd rfl h, fun h => absurd h (by omega), by rw [wr_other _ _ _ _ _ (by omega), wr_other _ _ _ _ _ (by omega)], by rw [wr_other _ _ _ _ _ (by omega), wr_other _ _ _ _ _ (by omega)], by rw [wr_same, upd_other (by omega), wr_same, upd_other (by omega)], fun j h1 h2 h3 => by rw [wr_other _ _ _ _ _ (by omega), wr_other _ _ _ _ _ (by omega)], fun g hg => by rw [wr_ng _ _ _ _ hg, wr_ng _ _ _ _ hg], by rw [wr_2, wr_2]⟩
  generalize hM1 : wr (wr M 6 3 4 (nI 0)) 6 3 5 (nI 0) = M1 at hS
  generalize hBB : M.1 6 4 = B at hT hB
  generalize M.1 6 5 = L0 at hS
  generalize M.1 6 6 = V0 at hS
  -- the first order
  obtain ⟨A1, x1, y1⟩ := cs_letter hS (by omega) (x := nI 112) (by rw [kN_112]; omega)
  have g1 : upd L0 0 (nI 112) 0 = nI 112 := upd_same
  generalize upd L0 0 (nI 112) = L1 at y1 g1
  have z1 : ∀ r, PR 1 A1 r → PR 0 M1 r := fun r h => pr_step hT hS.cf (by omega) (by rw [hB 0 112 rfl]; exact x1) h
  obtain ⟨A2, V2, y2, v2, w2, z2⟩ := ps_num hT y1 (by omega) (by rw [g1, kN_112]; omega) (Or.inl ⟨rfl, rfl⟩) hp (p := 1) (by omega) (hB 1 _ rfl) (hB 2 _ rfl) (hB 3 _ rfl) (hB 4 _ rfl)
  obtain ⟨A3, x3, y3⟩ := cs_end y2 (by omega) (by omega) (by rw [g1, kN_112])
  have z3 : ∀ r, PR 6 A3 r → PR 5 A2 r := fun r h => pr_step hT y2.cf (by omega) (by rw [hB 5 59 rfl]; exact x3) h
  -- the second
  obtain ⟨A4, x4, y4⟩ := cs_letter y3 (by omega) (x := nI 113) (by rw [kN_113]; omega)
  have g2 : upd L1 1 (nI 113) 1 = nI 113 := upd_same
  have g3 : upd L1 1 (nI 113) 0 = nI 112 := by rw [upd_other (by omega)]; exact g1
  rw [show 0 + 1 = 1 from rfl] at y4
  generalize upd L1 1 (nI 113) = L2 at y4 g2 g3
  have z4 : ∀ r, PR 7 A4 r → PR 6 A3 r := fun r h => pr_step hT y3.cf (by omega) (by rw [hB 6 113 rfl]; exact x4) h
  obtain ⟨A5, V5, y5, v5, w5, z5⟩ := ps_num hT y4 (by omega) (by rw [g2, kN_113]; omega) (Or.inl ⟨rfl, rfl⟩) hu (p := 7) (by omega) (hB 7 _ rfl) (hB 8 _ rfl) (hB 9 _ rfl) (hB 10 _ rfl)
  obtain ⟨A6, V6, y6, v6, w6, z6⟩ := ps_num hT y5 (by omega) (by rw [g2, kN_113]; omega) (Or.inr rfl) hs (p := 11) (by omega) (hB 11 _ rfl) (hB 12 _ rfl) (hB 13 _ rfl) (hB 14 _ rfl)
  obtain ⟨A7, V7, y7, v7, w7, z7⟩ := ps_num hT y6 (by omega) (by rw [g2, kN_113]; omega) (Or.inr rfl) ht (p := 15) (by omega) (hB 15 _ rfl) (hB 16 _ rfl) (hB 17 _ rfl) (hB 18 _ rfl)
  obtain ⟨A8, V8, y8, v8, w8, z8⟩ := ps_num hT y7 (by omega) (by rw [g2, kN_113]; omega) (Or.inr rfl) he (p := 19) (by omega) (hB 19 _ rfl) (hB 20 _ rfl) (hB 21 _ rfl) (hB 22 _ rfl)
  obtain ⟨A9, x9, y9⟩ := cs_end y8 (by omega) (by omega) (by rw [g2, kN_113])
  have z9 : ∀ r, PR 24 A9 r → PR 23 A8 r := fun r h => pr_step hT y8.cf (by omega) (by rw [hB 23 59 rfl]; exact x9) h
  -- the third
  obtain ⟨C1, m1, n1⟩ := cs_letter y9 (by omega) (x := nI 98) (by rw [kN_98]; omega)
  have g4 : upd L2 2 (nI 98) 2 = nI 98 := upd_same
  have g5 : upd L2 2 (nI 98) 1 = nI 113 := by rw [upd_other (by omega)]; exact g2
  have g6 : upd L2 2 (nI 98) 0 = nI 112 := by rw [upd_other (by omega)]; exact g3
  rw [show 1 + 1 = 2 from rfl] at n1
  generalize upd L2 2 (nI 98) = L3 at n1 g4 g5 g6
  have u1 : ∀ r, PR 25 C1 r → PR 24 A9 r := fun r h => pr_step hT y9.cf (by omega) (by rw [hB 24 98 rfl]; exact m1) h
  obtain ⟨C2, V9, n2, v9, w9, u2⟩ := ps_num hT n1 (by omega) (by rw [g4, kN_98]; omega) (Or.inl ⟨rfl, rfl⟩) hc (p := 25) (by omega) (hB 25 _ rfl) (hB 26 _ rfl) (hB 27 _ rfl) (hB 28 _ rfl)
  obtain ⟨C3, m3, n3⟩ := cs_end n2 (by omega) (by omega) (by rw [g4, kN_98])
  have u3 : ∀ r, PR 30 C3 r → PR 29 C2 r := fun r h => pr_step hT n2.cf (by omega) (by rw [hB 29 59 rfl]; exact m3) h
  have fin := pr_end hT n3 (by omega)
  rw [if_pos rfl] at fin
  have hP := z1 _ (z2 _ (z3 _ (z4 _ (z5 _ (z6 _ (z7 _ (z8 _ (z9 _ (u1 _ (u2 _ (u3 _ fin)))))))))))
  refine ⟨C3, L3, V9, ?_, n3, g6, g5, g4, ?_, ?_, ?_, ?_, ?_, v9⟩
  · have := hP FU (by decide)
    unfold f_X3_parse
    rw [show wr (wr M 6 3 4 (0 : Int32)) 6 3 5 (0 : Int32) = M1 from hM1]
    exact this
  · rw [w9 0 (by omega), w8 0 (by omega), w7 0 (by omega), w6 0 (by omega), w5 0 (by omega)]
    exact v2
  · rw [w9 4 (by omega), w8 4 (by omega), w7 4 (by omega), w6 4 (by omega)]
    exact v5
  · rw [w9 5 (by omega), w8 5 (by omega), w7 5 (by omega)]
    exact v6
  · rw [w9 6 (by omega), w8 6 (by omega)]
    exact v7
  · rw [w9 7 (by omega)]
    exact v8
end OO
