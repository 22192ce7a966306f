/-! ===== the law ===== -/
section LQ
variable {xs : Nat → Int32} {nS : Nat} {N : Row} {S : List Row} {T : List Nat} {M : Mem}
theorem nI_bv {x : Int32} {m : Nat} (h : x.toBitVec.toNat = m) : x = nI m := by
  apply Int32.toBitVec_inj.mp
  apply BitVec.eq_of_toNat_eq
  rw [pk_tn (by rw [← h]; exact x.toBitVec.isLt), h]
theorem low_nI (x : Int32) {n : Nat} (h0 : 0 < n) (hn : n < 2147483648) : ∃ m, m < n ∧ f_L_low x (nI n) = some (nI m) := by
  have e : x &&& (2147483647 : Int32) = nI (x.toBitVec.toNat &&& 2147483647) := nI_bv (by
    rw [Int32.toBitVec_and, BitVec.toNat_and]
    rfl)
  have hlt : x.toBitVec.toNat &&& 2147483647 ≤ 2147483647 := Nat.and_le_right
  refine ⟨(x.toBitVec.toNat &&& 2147483647) % n, Nat.mod_lt _ h0, ?_⟩
  unfold f_L_low
  rw [if_pos (show ¬ nI n = 0 by rw [show (0 : Int32) = nI 0 from rfl, nI_eq (by omega) (by omega)]; omega), e, rem_nI (by omega) h0 hn]
theorem bits6 {x : Int32} (h : ∀ i, 6 ≤ i → i < 32 → bt x i = false) : ∃ m, m < 64 ∧ x = nI m := by
  have e : x = x &&& nI 63 := bt_ext fun i hi => by
    rw [bt_and]
    by_cases h6 : 6 ≤ i
    · rw [h i h6 hi]; rfl
    · have : bt (nI 63) i = true := by
        have key : ∀ i, i < 6 → bt (nI 63) i = true := by decide
        exact key i (by omega)
      rw [this, Bool.and_true]
  have h2 : x.toBitVec.toNat = x.toBitVec.toNat &&& 63 := by
    have := congrArg (fun z : Int32 => z.toBitVec.toNat) e
    have h7 : x.toBitVec.toNat = (x &&& nI 63).toBitVec.toNat := this
    rw [Int32.toBitVec_and, BitVec.toNat_and] at h7
    exact h7
  have h3 : x.toBitVec.toNat &&& 63 ≤ 63 := Nat.and_le_right
  exact ⟨x.toBitVec.toNat, by omega, nI_bv rfl⟩
theorem orS_6 {p : Nat → Bool} {f : Nat → Nat} {n : Nat} (h : ∀ k, k < n → f k < 6) {i : Nat} (h6 : 6 ≤ i) (hi : i < 32) : bt (orS p f n) i = false := by
  rw [bt_orS (fun k hk _ => by have := h k hk; omega) i hi, anyN_f]
  intro k hk
  have := h k hk
  rw [decide_eq_false (show ¬ f k = i by omega), Bool.and_false]
theorem aFor_ok (hN : WFa N) {u : Nat} (hu : u < 6) : aFor N (nI u) = -52 ∨ ∃ m, m < 64 ∧ aFor N (nI u) = nI m := by
  unfold aFor
  rw [inR_nI (by omega) (by omega), decide_eq_true hu, if_pos rfl]
  by_cases hp : pl N (nI u) = mI
  · rw [if_pos hp]; exact Or.inl rfl
  · obtain ⟨q, hq1, hq2, -⟩ := pl_k hN.1.2.2.2.1 hp
    have hq8 := wq_le hN.1.2.2.2.1
    rw [if_neg hp, hq2, cl_nI (n := q) (by omega)]
    refine Or.inr (bits6 fun i h6 hi => ?_)
    rw [bt_or, orS_6 (fun k hk => usr_lt hN.1.2.1 hk) h6 hi, orS_6 (fun k hk => (wus_eq hN.1.2.2.2.1 (by omega)).2) h6 hi]
    rfl
theorem out_hd (N : Row) : ∃ tl, outT N 21 0 = nI 48 :: tl := by
  show ∃ tl, (if chMany N 0 = 0 then numL 0 else (numL 0 ++ kidL N (outT N 20) 0 (chMany N 0)) ++ [nI 41]) = nI 48 :: tl
  have e : numL 0 = [nI 48] := rfl
  rw [e]
  by_cases h : chMany N 0 = 0
  · rw [if_pos h]; exact ⟨[], rfl⟩
  · rw [if_neg h]; exact ⟨_, rfl⟩
theorem e_out0 (hN : WFa N) (h : De N S T M) : ∃ M', f_L_outline 0 M = some (48, M') ∧ De N S T M' := by
  have hr := h.1
  have hH : HC N := HC_of hN.1.1 hr.2.1
  have h80 := out_80 hN.1.1 hH 21
  have hb0 : BC M (wr M 6 7 1 (nI 0)) [] := ⟨by rw [wr_same, upd_same]; rfl, fun i hi => absurd hi (Nat.not_lt_zero _), fun j h1 h2 => by rw [wr_other _ _ _ _ _ (by omega)], fun g hg => by rw [wr_ng _ _ _ _ hg], by rw [wr_2]⟩
  obtain ⟨M2, a1, a2⟩ := c_outT hN.1.1 hr hH 21 0 0 (by omega) (us_0 hN.1.1) (dp_0 hN.1.1) rfl _ [] hb0 (by show 0 + (outT N 21 0).length ≤ 128; omega)
  have a2 : BC M M2 (outT N 21 0) := a2
  obtain ⟨b1, b2', b3, b4, b5⟩ := a2
  obtain ⟨tl, htl⟩ := out_hd N
  rw [htl] at h80 b1 b2'
  have e8 : M2.1 6 8 0 = nI 48 := b2' 0 (Nat.succ_pos _)
  have hw := wiN (nI 0) (n := (nI 48 :: tl).length) (by omega)
  have hin : inR (nI 0) (nI 48 :: tl).length = true := by rw [inR_nI (by omega) (by omega), decide_eq_true (show 0 < (nI 48 :: tl).length from Nat.succ_pos _)]
  have hby : f_X4_byteAt (nI 0) M2 = some (nI 48) := by
    unfold f_X4_byteAt B_X4_byteAt_25 B_X4_byteAt_26
    rw [b1, hw, hin, if_neg (show ¬ b2 true = 0 by decide)]
    simp (disch := omega) only [↓ite_b2r, ↓ite_nb2r, ↓lit_m1, ↓lit_m2, lit_0, lit_1, lit_2, lit_3, lit_4, lit_5, lit_6, lit_7, lit_8, lit_9, lit_10, lit_11, lit_12, lit_13, lit_14, lit_15, lit_16, lit_17, lit_18, lit_19, lit_20, lit_21, lit_22, lit_23, lit_24, lit_25, lit_26, lit_27, lit_28, lit_29, lit_30, lit_31, lit_32, lit_33, lit_34, lit_35, lit_36, lit_40, lit_41, lit_42, lit_44, lit_48, lit_57, lit_59, lit_62, lit_63, lit_64, lit_82, lit_98, lit_99, lit_100, lit_101, lit_102, lit_103, lit_104, lit_105, lit_106, lit_107, lit_108, lit_109, lit_110, lit_111, lit_112, lit_113, lit_119, lit_120, lit_127, lit_128, lit_149, lit_150, lit_202, lit_240, lit_262, lit_894, lit_900, lit_999, lit_1000, lit_2000, lit_2662, lit_2663, lit_2695, lit_2701, lit_2702, lit_3602, lit_10806, nI_add, pk_mul, cl_nI, inb_nI, nI_leI, nI_ltI, nI_eq, nI_eq_m1, m1_eq_nI, nI_eq_m2, div_nI, rem_nI, Option.bind_some, b2_0, b2_1, isb_b2, if_true_, if_false_, ↓reduceIte, reduceCtorEq, not_true_eq_false, not_false_eq_true, bt_hasBit, ult, Nat.add_zero, false_and, true_and, and_true, and_false, Nat.reduceLeDiff, Nat.reduceEqDiff, Nat.reduceLT, Bool.toNat_true, Bool.toNat_false, decide_true, decide_false, Bool.not_true, Bool.not_false, Bool.false_and, Bool.true_and, Bool.and_true, Bool.and_false, Bool.or_false, Bool.true_or, Bool.or_true, Bool.false_or, show ¬ 128 ≤ 0 by omega, show 0 < 128 by omega, e8]
  refine ⟨M2, ?_, De_sc h (fun j _ => by rw [b4 0 (by omega)]) (fun g h1 h2 => b4 g (by omega)) (fun j hj => b3 j (by omega) (by omega))⟩
  have e : f_X8_faultOf (1 : Int32) (1 : Int32) (1 : Int32) = nI (flt true true true) := c_faultOf true true true
  have a1' : f_X4_putSection 0 21 (0 : Int32) (0 : Int32) (wr M 6 7 1 (0 : Int32)) = some M2 := a1
  unfold f_L_outline f_X8_outline B_X8_outline_10
  rw [if_neg (show ¬ (0 : Int32) < 0 by decide), e, fk_flt, flt_0, if_pos rfl, a1', Option.bind_some, show f_X4_byteAt 0 M2 = _ from hby]
  rfl
/-- the end -/
theorem l_655 (hN : WFa N) (hb : cl (N 0) + 2000 < 134217728) (h : De N S T M) : B_L_law_655 xs nS 1 M = some 1 := by
  obtain ⟨M1, a1, h1⟩ := e_out0 hN h
  obtain ⟨M2, a2, h2⟩ := p_refused hN hb h1
  unfold B_L_law_655
  rw [if_neg (show ¬ (1 : Int32) = 0 by decide), a1, Option.bind_some]
  dsimp only
  rw [if_pos rfl, a2, Option.bind_some]
  dsimp only
  rw [if_neg (show ¬ (1 : Int32) = 0 by decide)]
def Gs (K : Int32 → Int32 → Mem → Option Int32) (t : Nat) (N : Row) (r : Option Int32) : Prop := ∃ M' S' T', r = K 1 (nI t + 1) M' ∧ De N S' T' M'
section LS
variable {K : Int32 → Int32 → Mem → Option Int32} {t u a c v : Nat}
theorem l_606 (hN : WFa N) (hu : u < 6) (h : De N S T M) : Gs K t N (B_L_law_606 xs nS K (nI t) (nI u) M) := by
  refine ⟨M, S, T, ?_, h⟩
  unfold B_L_law_606 B_L_law_611
  rw [e_waitsFor hN h, Option.bind_some]
  dsimp only
  rw [if_neg (show ¬ (1 : Int32) = 0 by decide)]
  rcases aFor_ok hN hu with e | ⟨m, hm, e⟩
  · rw [e, if_pos rfl]
    rfl
  · have h64 : ¬ (64 : Int32) ≤ nI m := fun z => by
      have z2 : nI 64 ≤ nI m := z
      rw [nI_leI (by omega) (by omega)] at z2
      omega
    rw [e, if_neg (nI_p0 (by omega)), if_neg h64]
    by_cases h52 : nI m = -52
    · rw [if_pos h52]; rfl
    · rw [if_neg h52]; rfl
theorem l_591 (hN : WFa N) (hb : cl (N 0) + 5000 < 134217728) (hu : u < 6) (h : De N S T M) : Gs K t N (B_L_law_591 xs nS K (nI t) (nI u) M) := by
  unfold B_L_law_591
  by_cases h7 : ireM (nI t) 7 = 2
  · obtain ⟨M1, a1, h1⟩ := p_refused hN (by omega) h
    rw [if_pos h7, a1, Option.bind_some]
    dsimp only
    rw [if_neg (show ¬ (1 : Int32) = 0 by decide)]
    exact l_606 hN hu h1
  · rw [if_neg h7]
    exact l_606 hN hu h
theorem l_585 (e : Bool) (hN : WFa N) (hb : cl (N 0) + 5000 < 134217728) (hu : u < 6) (ha : a < 8) (hc : c < 6) (hv : v < 1000) (h : De N S T M) : Gs K t N (B_L_law_585 xs nS K (nI t) (nI u) (b2 e) (nI v) (nI c) (nI a) (nI u) M) := by
  obtain ⟨M1, S1, a1, h1⟩ := p_orders (u := u) (s := a) (c := c) (v := v) (e := e) hN (by omega) hu (by omega) (by omega) hv h
  unfold B_L_law_585
  rw [a1, Option.bind_some]
  dsimp only
  rw [if_neg (show ¬ (1 : Int32) = 0 by decide)]
  exact l_591 hN hb hu h1
theorem l_544 {x4 : Int32} (hN : WFa N) (hI : Inv N) (hb : cl (N 0) + 5000 < 134217728) (hu : u < 6) (ha : a < 8) (hc : c < 6) (hv : v < 1000) (h : De N S T M) : Gs K t N (B_L_law_544 xs nS K (nI t) x4 (nI u) (nI a) (nI c) (nI v) M) := by
  obtain ⟨M1, S1, a1, h1⟩ := p_back hN (by omega) hI.1 h (c := c) (by omega)
  unfold B_L_law_544
  rw [a1, Option.bind_some]
  dsimp only
  rw [if_neg (show ¬ (1 : Int32) = 0 by decide)]
  by_cases h4 : ireM (nI t) 4 = 1
  · rw [if_pos h4]
    by_cases h23 : (x4 >>> ((23 : Int32) &&& 31)) &&& (1 : Int32) = 1
    · rw [if_pos h23]
      exact l_585 true hN hb hu ha hc hv h1
    · rw [if_neg h23]
      exact l_585 false hN hb hu ha hc hv h1
  · rw [if_neg h4]
    exact l_591 hN hb hu h1
theorem l_526 {x4 : Int32} (hN : WFa N) (hI : Inv N) (hb : cl (N 0) + 5000 < 134217728) (hu : u < 6) (ha : a < 8) (hc : c < 6) (hv : v < 1000) (h : De N S T M) : Gs K t N (B_L_law_526 xs nS K (nI t) x4 (nI u) (nI a) (nI c) (nI v) 1 M) := by
  unfold B_L_law_526
  rw [if_neg (show ¬ (1 : Int32) = 0 by decide)]
  by_cases h3 : ireM (nI t) 3 = 0
  · obtain ⟨M1, S1, a1, h1⟩ := p_granted hN hb h
    rw [if_pos h3, a1, Option.bind_some]
    dsimp only
    rw [if_neg (show ¬ (1 : Int32) = 0 by decide)]
    exact l_544 hN hI hb hu ha hc hv h1
  · rw [if_neg h3]
    exact l_544 hN hI hb hu ha hc hv h
theorem l_490 {x4 : Int32} (hN : WFa N) (hI : Inv N) (hb : cl (N 0) + 5000 < 134217728) (hu : u < 6) (ha : a < 8) (hc : c < 6) (hv : v < 1000) (h : De N S T M) : Gs K t N (B_L_law_490 xs nS K (nI t) x4 (nI u) (nI a) (nI c) (nI v) M) := by
  have z : ¬ (1 : Int32) = 0 := by decide
  obtain ⟨M1, a1, h1⟩ := p_apart hN h
  obtain ⟨M2, S2, a2, h2⟩ := p_putBack hN h1 (a := a) (by omega)
  unfold B_L_law_490
  rw [a1, Option.bind_some]
  dsimp only
  rw [if_neg z, p_tree hN h1, Option.bind_some]
  dsimp only
  rw [if_neg z, p_told hN hI.2 h1, Option.bind_some]
  dsimp only
  rw [if_neg z, a2, Option.bind_some]
  dsimp only
  rw [if_neg z]
  exact l_526 hN hI hb hu ha hc hv h2
theorem l_463 {x4 its : Int32} (hi : okA its) (hN : WFa N) (hI : Inv N) (hb : cl (N 0) + 5000 < 134217728) (hu : u < 6) (ha : a < 8) (hc : c < 6) (hv : v < 1000) (h : De N S T M) : Gs K t N (B_L_law_463 xs nS K (nI t) x4 (nI u) (nI a) (nI c) (nI v) its M) := by
  have e : B_L_law_463 xs nS K (nI t) x4 (nI u) (nI a) (nI c) (nI v) its M = B_L_law_490 xs nS K (nI t) x4 (nI u) (nI a) (nI c) (nI v) M := by
    unfold B_L_law_463
    by_cases h1 : (-1 : Int32) ≤ its
    · rw [if_pos h1]
    · rw [if_neg h1]
      by_cases h2 : its = -52
      · rw [if_pos h2]
      · rw [if_neg h2]
        by_cases h3 : its = -53
        · rw [if_pos h3]
        · rw [if_neg h3]
          by_cases h4 : its = -51
          · rw [if_pos h4]
          · rcases hi with h | h | h | h
            · exact absurd h h1
            · exact absurd h h2
            · exact absurd h h3
            · exact absurd h h4
  rw [e]
  exact l_490 hN hI hb hu ha hc hv h
def Go (K : Int32 → Int32 → Mem → Option Int32) (t k : Nat) (r : Option Int32) : Prop := ∃ M' N' S' T', r = K 1 (nI t + 1) M' ∧ De N' S' T' M' ∧ TB k N' ∧ Inv N'
theorem Go_ite {k : Nat} {p : Prop} [Decidable p] {r1 r2 : Option Int32} (h1 : Go K t k r1) (h2 : Go K t k r2) : Go K t k (if p then r1 else r2) := by
  by_cases h : p
  · rw [if_pos h]; exact h1
  · rw [if_neg h]; exact h2
theorem Go_cl {f : Mem → Option (Int32 × Mem)} {k : Nat} {x4 : Int32} (hf : Cl f) (hT : TB k N) (hI : Inv N) (hk : k < 512) (hu : u < 6) (ha : a < 8) (hc : c < 6) (hv : v < 1000) (h : De N S T M) : Go K t (k + 1) ((f M).bind fun q => B_L_law_463 xs nS K (nI t) x4 (nI u) (nI a) (nI c) (nI v) q.1 q.2) := by
  obtain ⟨r, M1, N1, S1, e, ho, h1, hT1, hI1⟩ := hf k N S T M hT hI hk h
  have hb := hT1.b0 (by omega)
  obtain ⟨M2, S2, T2, e2, h2⟩ := l_463 (xs := xs) (nS := nS) (K := K) (t := t) (x4 := x4) ho hT1.1 hI1 (by omega) hu ha hc hv h1
  refine ⟨M2, N1, S2, T2, ?_, h2, hT1, hI1⟩
  rw [e, Option.bind_some]
  exact e2
end LS
theorem law_step {t k : Nat} (n : Nat) (ht : t < 22) (hT : TB k N) (hI : Inv N) (hk : k < 512) (h : De N S T M) : Go (L_L_law_86 xs nS n) t (k + 1) (L_L_law_86 xs nS (n + 1) 1 (nI t) M) := by
  rw [L_L_law_86, if_neg (show ¬ (22 : Int32) ≤ nI t from fun z => by have z2 : nI 22 ≤ nI t := z; rw [nI_leI (by omega) (by omega)] at z2; omega), if_neg (show ¬ (1 : Int32) = 0 by decide), if_pos (show (0 : Int32) ≤ nI t from by show nI 0 ≤ nI t; rw [nI_leI (by omega) (by omega)]; omega)]
  generalize cellv xs nS (nI t) = x
  obtain ⟨u, hu, eu⟩ := low_nI (x >>> ((5 : Int32) &&& 31)) (n := 6) (by omega) (by omega)
  obtain ⟨a, ha, ea⟩ := low_nI (x >>> ((8 : Int32) &&& 31)) (n := 8) (by omega) (by omega)
  obtain ⟨c, hc, ec⟩ := low_nI (x >>> ((11 : Int32) &&& 31)) (n := 6) (by omega) (by omega)
  obtain ⟨v, hv, ev⟩ := low_nI (x >>> ((14 : Int32) &&& 31)) (n := 1000) (by omega) (by omega)
  obtain ⟨d, hd1, ed⟩ := low_nI x (n := 13) (by omega) (by omega)
  rw [show f_L_low (x >>> ((5 : Int32) &&& 31)) 6 = _ from eu, Option.bind_some, show f_L_low (x >>> ((8 : Int32) &&& 31)) 8 = _ from ea, Option.bind_some, show f_L_low (x >>> ((11 : Int32) &&& 31)) 6 = _ from ec, Option.bind_some, show f_L_low (x >>> ((14 : Int32) &&& 31)) 1000 = _ from ev, Option.bind_some, show f_L_low x 13 = _ from ed, Option.bind_some]
  have e30 : (1 : Int32) + ireM (nI v) (30 : Int32) = nI (1 + v % 30) := by
    rw [show (30 : Int32) = nI 30 from rfl, rem_nI (by omega) (by omega) (by omega), show (1 : Int32) = nI 1 from rfl, nI_add]
  have e12 : ireM (nI v) (12 : Int32) = nI (v % 12) := by
    rw [show (12 : Int32) = nI 12 from rfl, rem_nI (by omega) (by omega) (by omega)]
  rw [e30, e12]
  have hreq : ∀ e : Bool, Go (L_L_law_86 xs nS n) t (k + 1) (B_L_law_252 xs nS (L_L_law_86 xs nS n) (nI t) x (nI u) (nI a) (nI c) (nI v) (b2 e) (nI (1 + v % 30)) (nI a) (nI u) M) := fun e => Go_cl (s_request (t := 1 + v % 30) e hu (by omega) (by omega)) hT hI hk hu ha hc hv h
  have hrq := Go_ite (p := (x >>> ((24 : Int32) &&& 31)) &&& (1 : Int32) = 1) (hreq true) (hreq false)
  have hgo : ∀ {f : Mem → Option (Int32 × Mem)}, Cl f → Go (L_L_law_86 xs nS n) t (k + 1) ((f M).bind fun q => B_L_law_463 xs nS (L_L_law_86 xs nS n) (nI t) x (nI u) (nI a) (nI c) (nI v) q.1 q.2) := fun hf => Go_cl hf hT hI hk hu ha hc hv h
  exact Go_ite hrq (Go_ite hrq (Go_ite hrq (Go_ite hrq (Go_ite (hgo (s_edit _ _ _ _)) (Go_ite (hgo (s_edit _ _ _ _)) (Go_ite (hgo (s_pass (by omega))) (Go_ite (hgo (s_write _ _ _)) (Go_ite (Go_ite (hgo (s_giveBack _ _)) (hgo (s_breakUp _))) (Go_ite (Go_ite (hgo (s_cancel _)) (hgo (s_renew _ _))) (Go_ite (Go_ite (hgo (s_removeSection _)) (hgo (s_moveSection _ _))) (Go_ite (Go_ite (hgo (s_addSection _)) (hgo (s_edit _ _ _ _))) (hgo (s_revert _ _)))))))))))))
theorem law_run : ∀ (d t k : Nat) (N : Row) (S : List Row) (T : List Nat) (M : Mem), t + d = 22 → k + d < 512 → TB k N → Inv N → De N S T M → L_L_law_86 xs nS (d + 1) 1 (nI t) M = some 1
  | 0, t, k, N, S, T, M, ht, hk, hT, hI, h => by
    have : t = 22 := by omega
    subst this
    have hb := hT.b0 (by omega)
    rw [L_L_law_86, if_pos (show (22 : Int32) ≤ nI 22 from Int32.le_refl _)]
    exact l_655 hT.1 (by omega) h
  | d + 1, t, k, N, S, T, M, ht, hk, hT, hI, h => by
    obtain ⟨M1, N1, S1, T1, e, h1, hT1, hI1⟩ := law_step (xs := xs) (nS := nS) (d + 1) (show t < 22 by omega) hT hI (by omega) h
    rw [e, nI_1]
    exact law_run d (t + 1) (k + 1) N1 S1 T1 M1 (by omega) (by omega) hT1 hI1 h1
theorem cnt_k : ∀ k, k < 8 → cntN (fun i => decide (i < k)) 20 < 20 := by decide
theorem fst_k : ∀ k, k < 8 → fst (fun i => decide (i < k)) 20 0 = k := by decide
/-- the first sections -/
def Fs (k : Nat) (N : Row) : Prop := (∀ i, i < 20 → us N i = decide (i < k)) ∧ (∀ c, c < 10 → ck N c = false) ∧ wq N = 0
theorem fs_step {k : Nat} (n : Nat) (h0 : 0 < k) (h8 : k < 8) (hF : Fs k N) (hT : TB k N) (hI : Inv N) (h : De N S T M) : ∃ M' N' S', L_L_law_40 xs nS (n + 1) 1 (nI k) M = L_L_law_40 xs nS n 1 (nI (k + 1)) M' ∧ De N' S' T M' ∧ TB (k + 1) N' ∧ Inv N' ∧ Fs (k + 1) N' := by
  obtain ⟨p, hp, ep⟩ := low_nI ((cellv xs nS (40 : Int32)) >>> (((3 : Int32) * nI k) &&& 31)) (n := k) h0 (by omega)
  have hN := hT.1
  have hb := hT.b0 (by omega)
  have hb1 : cl (N 1) + 1 < 1073741824 := by omega
  obtain ⟨f1, f2, f3⟩ := hF
  have hup : us N p = true := by rw [f1 p (by omega), decide_eq_true hp]
  have hm : manyS N < 20 := by
    unfold manyS
    rw [cntN_c (q := fun i => decide (i < k)) (fun i hi => f1 i hi)]
    exact cnt_k k h8
  have hf : freS N = k := by
    unfold freS
    rw [fst_c (q := fun i => decide (i < k)) 20 0 (fun i hi => f1 i (by omega))]
    exact fst_k k h8
  have hC : Cov N p = false := by
    unfold Cov
    rw [f3, Bool.or_eq_false_iff]
    refine ⟨anyN_f.mpr fun c hc => ?_, rfl⟩
    rw [f2 c hc]
    rfl
  obtain ⟨M1, e1, h1⟩ := e_addSection hN hb1 h (show p < 20 by omega) hup hm hC
  rw [hf] at e1 h1
  have hfk : us N k = false := by rw [f1 k (by omega), decide_eq_false (Nat.lt_irrefl k)]
  have hW := WFa_add hN (show k < 20 by omega) hfk (show p < 20 by omega) hup hb1
  refine ⟨M1, _, _, ?_, h1, TB_add hT (by omega) hW, Inv_add hN (by omega) hfk (by omega) hup hC hb1 hI, fun i hi => ?_, fun c hc => ?_, ?_⟩
  · rw [L_L_law_40, if_neg (show ¬ (8 : Int32) ≤ nI k from fun z => by have z2 : nI 8 ≤ nI k := z; rw [nI_leI (by omega) (by omega)] at z2; omega), if_neg (show ¬ (1 : Int32) = 0 by decide), if_pos (show (0 : Int32) ≤ 40 by decide), ep, Option.bind_some, e1, Option.bind_some]
    dsimp only
    rw [if_pos rfl]
    unfold B_L_law_77
    rw [nI_1]
  · rw [addS_us (by omega) hi, f1 i hi]
    by_cases h2 : i = k
    · rw [decide_eq_true h2, Bool.or_true, decide_eq_true (by omega)]
    · rw [decide_eq_false h2, Bool.or_false]
      exact decide_eq_decide.mpr (by omega)
  · rw [ck_cg ((addS_hi (by omega)).sub (by omega) (by omega)) hc]
    exact f2 c hc
  · rw [wq_cg ((addS_hi (by omega)).sub (by omega) (by omega))]
    exact f3
theorem fs_run : ∀ (d k : Nat) (N : Row) (S : List Row) (T : List Nat) (M : Mem), k + d = 8 → 0 < k → Fs k N → TB k N → Inv N → De N S T M → L_L_law_40 xs nS (d + 1) 1 (nI k) M = some 1
  | 0, k, N, S, T, M, hk, h0, hF, hT, hI, h => by
    have : k = 8 := by omega
    subst this
    rw [L_L_law_40, if_pos (show (8 : Int32) ≤ nI 8 from Int32.le_refl _)]
    unfold B_L_law_84
    exact law_run 22 0 8 N S T M rfl (by omega) hT hI h
  | d + 1, k, N, S, T, M, hk, h0, hF, hT, hI, h => by
    obtain ⟨M1, N1, S1, e, h1, hT1, hI1, hF1⟩ := fs_step (xs := xs) (nS := nS) (d + 1) h0 (by omega) hF hT hI h
    rw [e]
    exact fs_run d (k + 1) N1 S1 T M1 (by omega) (by omega) hF1 hT1 hI1 h1
theorem law_true : f_L_law xs nS M0 = some 1 := by
  have hb0 : cl (N0 0) = 0 := by rw [N0_o (by omega) (by omega), cl_nI (by omega)]
  obtain ⟨M1, a1, h1⟩ := e_pass (n := 0) WFa_0 De_0 (by omega) (by rw [hb0]; omega)
  have h1 : De N0 [N0] [] M1 := h1
  have a1 : f_L_pass 0 M0 = some (N0 0, M1) := a1
  obtain ⟨M2, a2, h2⟩ := p_refused WFa_0 (by rw [hb0]; omega) h1
  have hF : Fs 1 N0 := ⟨fun i hi => by rw [N0_us hi]; exact decide_eq_decide.mpr (by omega), fun c hc => N0_ck hc, N0_wq⟩
  have key := fs_run (xs := xs) (nS := nS) 7 1 N0 _ _ M2 rfl (by omega) hF (TB_0.up (by omega)) Inv_0 h2
  unfold f_L_law
  rw [e_undo0 De_0, Option.bind_some]
  dsimp only
  rw [if_pos rfl, a1, Option.bind_some]
  dsimp only
  rw [if_pos (show N0 0 = 0 from by rw [N0_o (by omega) (by omega)]; rfl), a2, Option.bind_some]
  dsimp only
  rw [if_neg (show ¬ (1 : Int32) = 0 by decide)]
  unfold B_L_law_37
  exact key
end LQ
