/-! ===== the line is served: both sides ===== -/
theorem WF_cgA {R N : Row} (h : eqR 0 3602 R N) (hN : WF N) : WF R :=
  ⟨WFt_cg (h.sub (by omega) (by omega)) hN.1, WFc_cg (h.sub (by omega) (by omega)) (h.sub (by omega) (by omega)) hN.2.1, WFl_cg (h.sub (by omega) (by omega)) (h.sub (by omega) (by omega)) hN.2.2.1, WFq_cg (h.sub (by omega) (by omega)) (h.sub (by omega) (by omega)) hN.2.2.2.1, WFu_cg (h 0 (by omega) (by omega)) (h.sub (by omega) (by omega)) hN.2.2.2.2.1, WFh_cg (h.sub (by omega) (by omega)) hN.2.2.2.2.2⟩
theorem RD_cgA {D : Dk} {R N : Row} (h : eqR 0 3602 R N) (hN : WF N) (hr : RD D N) : RD D R := by
  obtain ⟨a1, a2, a3, a4, a5, a6, a7⟩ := hr
  have h00 : eqR 0 62 R N := h.sub (by omega) (by omega)
  exact ⟨RDt_cg h00 (h.sub (by omega) (by omega)) (h.sub (by omega) (by omega)) hN.1 a1, RDs_cg h00 a2, RDc_cg (h.sub (by omega) (by omega)) a3, RDk_cg h00 (h.sub (by omega) (by omega)) hN.1 a4, RDq_cg (h.sub (by omega) (by omega)) hN.2.2.2.1 a5, RDh_cg (h.sub (by omega) (by omega)) hN.2.2.2.2.2 a6, RDu_cg (h 0 (by omega) (by omega)) (h.sub (by omega) (by omega)) a7⟩
section CG2
variable {R N : Row} {u s t : Nat} {e : Bool}
theorem Abs_cg (h0 : eqR 0 62 R N) (h1 : eqR 202 262 R N) (hN : WFt N) (hc : WFc N) {c : Nat} (hcc : c < 10) : Abs R u s e c = Abs N u s e c := by
  unfold Abs
  rw [hel_cg h1 hcc, usr_cg h1 hcc, sec_cg h1 hcc]
  cases h : hel N c with
  | false => simp only [Bool.false_and, Bool.and_false]
  | true => rw [An_cg h0 hN (sec_lt hc hcc (hel_ck h)) (sec_us hc hcc (hel_ck h))]
theorem Bar_cg (h0 : eqR 0 62 R N) (h1 : eqR 202 262 R N) (hN : WFt N) (hc : WFc N) (hs : s < 20) (hus : us N s = true) {c : Nat} (hcc : c < 10) : Bar R u s e c = Bar N u s e c := by
  unfold Bar
  rw [hel_cg h1 hcc, sec_cg h1 hcc, sh_cg h1 hcc, Abs_cg h0 h1 hN hc hcc]
  cases h : hel N c with
  | false => simp only [Bool.false_and, Bool.and_false]
  | true => rw [Ov_cg h0 hN hs hus (sec_lt hc hcc (hel_ck h)) (sec_us hc hcc (hel_ck h))]
theorem Cnt_cg (h0 : eqR 0 62 R N) (h1 : eqR 202 262 R N) (hN : WFt N) (hc : WFc N) : Cnt R u s e = Cnt N u s e := cntN_c fun c hcc => by rw [ck_cg h1 hcc, Abs_cg h0 h1 hN hc hcc]
theorem Can_cg (h0 : eqR 0 62 R N) (h1 : eqR 202 262 R N) (hN : WFt N) (hc : WFc N) (hs : s < 20) (hus : us N s = true) : Can R u s e = Can N u s e := by
  unfold Can
  rw [Cnt_cg h0 h1 hN hc, anyN_c (fun c hcc => Bar_cg h0 h1 hN hc hs hus hcc)]
theorem Blk_cg (h0 : eqR 0 62 R N) (hN : WFt N) {j : Nat} (h1 : R (2663 + 4 * j + 1) = N (2663 + 4 * j + 1)) (h3 : R (2663 + 4 * j + 3) = N (2663 + 4 * j + 3)) (hl : wse N j < 20) (hu : us N (wse N j) = true) (hs : s < 20) (hus : us N s = true) : Blk R j s e = Blk N j s e := by
  have e1 : wse R j = wse N j := by unfold wse; rw [h1]
  have e2 : wsh R j = wsh N j := by unfold wsh; rw [h3]
  unfold Blk
  rw [e1, e2, Ov_cg h0 hN hl hu hs hus]
theorem fst_c {p q : Nat → Bool} : ∀ (f c : Nat), (∀ k, k < c + f → p k = q k) → fst p f c = fst q f c
  | 0, _, _ => rfl
  | f + 1, c, h => by
    rw [fst, fst, h c (by omega), fst_c f (c + 1) (fun k hk => h k (by omega))]
theorem its_cg (h0 : eqR 0 62 R N) (h1 : eqR 202 262 R N) (hN : WFt N) (hc : WFc N) : itsN R u s e = itsN N u s e := fst_c _ _ fun c hcc => by unfold frN; rw [ck_cg h1 (by omega), Abs_cg h0 h1 hN hc (by omega)]
theorem clrS_cg (h : eqR 0 2662 R N) (hN : WFt N) (hc : WFc N) : ∀ i, i ≤ 10 → eqR 0 2662 (clrS R u s e i) (clrS N u s e i)
  | 0, _ => h
  | i + 1, hi => by
    rw [clrS, clrS, Abs_cg (h.sub (by omega) (by omega)) (h.sub (by omega) (by omega)) hN hc (by omega)]
    have ih := clrS_cg h hN hc i (by omega)
    by_cases hA : Abs N u s e i = true
    · rw [if_pos hA, if_pos hA]
      intro k h1 h2
      unfold closeS setC
      by_cases hk : k = 202 + 6 * i + 0
      · rw [hk, upd_same, upd_same]
      · rw [upd_other hk, upd_other hk]; exact ih k h1 h2
    · rw [if_neg hA, if_neg hA]; exact ih
theorem tkR_cg (h : eqR 0 2662 R N) (hN : WFt N) (hc : WFc N) : ∀ i, i ≤ 10 → ∀ x, x < 240 → tkR R u s e i x = tkR N u s e i x
  | 0, _, x, hx => h _ (by omega) (by omega)
  | i + 1, hi, x, hx => by
    have h0 : eqR 0 62 R N := h.sub (by omega) (by omega)
    have h1 : eqR 202 262 R N := h.sub (by omega) (by omega)
    have ecop : cop R i (x / 12) = cop N i (x / 12) := by
      unfold cop
      rw [us_cg h0 (by omega), sec_cg h1 (by omega)]
      cases hu : us N (x / 12) with
      | false => simp only [Bool.false_and]
      | true => rw [An_cg h0 hN (by omega) hu]
    rw [tkR, tkR, Abs_cg h0 h1 hN hc (by omega), sh_cg h1 (by omega), ecop, tkR_cg h hN hc i (by omega) x hx, h (262 + 240 * i + x) (by omega) (by omega)]
theorem grantS_cg (h : eqR 0 2662 R N) (hN : WFt N) (hc : WFc N) : eqR 0 2662 (grantS R u s t e) (grantS N u s t e) := by
  have h0 : eqR 0 62 R N := h.sub (by omega) (by omega)
  have h1 : eqR 202 262 R N := h.sub (by omega) (by omega)
  have hcl := clrS_cg (u := u) (s := s) (e := e) h hN hc 10 (by omega)
  intro k k1 k2
  unfold grantS
  rw [its_cg h0 h1 hN hc]
  generalize itsN N u s e = n
  unfold cpS
  by_cases hk : 262 + 240 * n ≤ k ∧ k < 262 + 240 * n + 240
  · rw [if_pos hk, if_pos hk, tkR_cg h hN hc 10 (by omega) _ (by omega)]
  · rw [if_neg hk, if_neg hk]
    unfold opS
    rw [hcl 0 (by omega) (by omega)]
    by_cases c5 : k = 202 + 6 * n + 5
    · rw [c5, upd_same, upd_same]
    rw [upd_other c5, upd_other c5]
    by_cases c4 : k = 202 + 6 * n + 4
    · rw [c4, upd_same, upd_same]
    rw [upd_other c4, upd_other c4]
    by_cases c3 : k = 202 + 6 * n + 3
    · rw [c3, upd_same, upd_same]
    rw [upd_other c3, upd_other c3]
    by_cases c2 : k = 202 + 6 * n + 2
    · rw [c2, upd_same, upd_same]
    rw [upd_other c2, upd_other c2]
    by_cases c1 : k = 202 + 6 * n + 1
    · rw [c1, upd_same, upd_same]
    rw [upd_other c1, upd_other c1]
    by_cases c0 : k = 202 + 6 * n
    · rw [c0, upd_same, upd_same]
    rw [upd_other c0, upd_other c0]
    exact hcl k k1 k2
theorem grant_leave (hN : WF N) {k : Nat} (hk : k < wq N) (hi : itsN N u s e < 10) : eqR 0 3602 (grantS (leaveS N k) u s t e) (leaveS (grantS N u s t e) k) := by
  have hlo : eqR 0 2662 (leaveS N k) N := leaveS_lo
  have hi2 : itsN (leaveS N k) u s e < 10 := by rw [its_cg (hlo.sub (by omega) (by omega)) (hlo.sub (by omega) (by omega)) hN.1 hN.2.1]; exact hi
  have hw : wq (grantS N u s t e) = wq N := by unfold wq; rw [gr_hi hi (by omega)]
  intro x h1 h2
  by_cases hx : x < 2662
  · rw [grantS_cg hlo hN.1 hN.2.1 x h1 hx, leaveS_lo x h1 hx]
  · rw [gr_hi hi2 (by omega)]
    unfold leaveS
    rw [hw]
    unfold shF
    have key : ∀ y, 2662 ≤ y → upd N 2662 (nI (wq N - 1)) y = upd (grantS N u s t e) 2662 (nI (wq N - 1)) y := by
      intro y hy
      by_cases hy2 : y = 2662
      · rw [hy2, upd_same, upd_same]
      · rw [upd_other hy2, upd_other hy2, gr_hi hi hy]
    rw [key x (by omega), key (x + 4) (by omega)]
end CG2
section SV
variable {N : Row}
theorem c_open {M : Mem} {g n : Nat} (hn : n < 10) (x2 x3 x4 x5 : Int32) : f_X0_open g (nI n) x2 x3 x4 x5 M = some (wrs (wr M g 8 3 (M.1 g 8 3 ||| (nI 1 <<< (nI n &&& nI 31)))) g 9 (upd (upd (upd (upd (upd (M.1 g 9) (5 * n + 0) x2) (5 * n + 1) x3) (5 * n + 2) x4) (5 * n + 3) (nI 1)) (5 * n + 4) x5)) := by
  unfold f_X0_open
  rw [show f_X8_isWithin (nI n) 0 9 = _ from c_within (nI n) 9 (by decide), inR_nI (by omega) (by decide), decide_eq_true (show n < 9 + 1 by omega), if_neg (show ¬ b2 true = 0 by decide)]
  show (f_X0_setFact g (nI n) (nI 0) x2 (wr M g 8 3 (M.1 g 8 3 ||| (nI 1 <<< (nI n &&& nI 31))))).bind _ = _
  have h9 : (wr M g 8 3 (M.1 g 8 3 ||| (nI 1 <<< (nI n &&& nI 31)))).1 g 9 = M.1 g 9 := wr_other _ _ _ _ _ (by omega)
  generalize wr M g 8 3 (M.1 g 8 3 ||| (nI 1 <<< (nI n &&& nI 31))) = M0 at h9 ⊢
  have st : ∀ (r : Nat → Int32) {w : Nat} (v : Int32), w < 5 → f_X0_setFact g (nI n) (nI w) v (wrs M0 g 9 r) = some (wrs M0 g 9 (upd r (5 * n + w) v)) := by
    intro r w v hw
    rw [c_setFact hn hw, wr_wrs]
  have s0 := st (M0.1 g 9) (w := 0) x2 (by decide)
  rw [wrs_self] at s0
  rw [s0, Option.bind_some]
  rw [show f_X0_setFact g (nI n) 1 x3 _ = _ from st _ (w := 1) x3 (by decide), Option.bind_some]
  rw [show f_X0_setFact g (nI n) 2 x4 _ = _ from st _ (w := 2) x4 (by decide), Option.bind_some]
  rw [show f_X0_setFact g (nI n) 3 1 _ = _ from st _ (w := 3) (nI 1) (by decide), Option.bind_some]
  rw [show f_X0_setFact g (nI n) 4 x5 _ = _ from st _ (w := 4) x5 (by decide), Option.bind_some, h9]
def okS (N : Row) (k : Nat) : Bool := Can N (wus N k) (wse N k) (wsh N k) && !BlkA N k (wse N k) (wsh N k)
def grS (N : Row) (k : Nat) : Row := grantS (leaveS N k) (wus N k) (wse N k) (wti N k) (wsh N k)
theorem Can_its {u s : Nat} {e : Bool} (h : Can N u s e = true) : Cnt N u s e < 10 := by
  unfold Can at h
  rw [Bool.and_eq_true, Bool.not_eq_true', Bool.not_eq_true', decide_eq_false_iff_not] at h
  omega
theorem WF_grS (hN : WF N) (hx : WFx N) {k : Nat} (hk : k < wq N) (ho : okS N k = true) : WF (grS N k) ∧ WFx (grS N k) ∧ wq (grS N k) = wq N - 1 := by
  have hNq := hN.2.2.2.1
  obtain ⟨e0, l0⟩ := wus_eq hNq hk
  obtain ⟨e1, l1, u1⟩ := wse_eq hNq hk
  obtain ⟨e2, l2, p2⟩ := wti_eq hNq hk
  unfold okS at ho
  rw [Bool.and_eq_true] at ho
  have hlo : eqR 0 2662 (leaveS N k) N := leaveS_lo
  have h0 : eqR 0 62 (leaveS N k) N := hlo.sub (by omega) (by omega)
  have h1 : eqR 202 262 (leaveS N k) N := hlo.sub (by omega) (by omega)
  have hcan : Can (leaveS N k) (wus N k) (wse N k) (wsh N k) = true := by rw [Can_cg h0 h1 hN.1 hN.2.1 l1 u1]; exact ho.1
  have hu2 : us (leaveS N k) (wse N k) = true := by rw [us_cg h0 l1]; exact u1
  have hW := WF_leave hN hk
  have hc := Can_its hcan
  refine ⟨WF_grant hW l0 l1 hu2 l2 p2 hc, WFx_grant hW (WFx_leave hN hx k) l1 hu2 hcan, ?_⟩
  have : wq (grS N k) = wq (leaveS N k) := by
    unfold wq grS
    rw [gr_hi (its_spec hc).1 (by omega)]
  rw [this, leaveS_wq hNq]
theorem c_lookAt {M : Mem} {g : Nat} (hN : WF N) (hx : WFx N) (h : RD (M.1 g) N) {k : Nat} (hk : k < wq N) : ∃ M', f_X1_lookAt g (nI k) M = some (if okS N k = true then nI (itsN N (wus N k) (wse N k) (wsh N k)) else mI, M') ∧ RD (M'.1 g) (if okS N k = true then grS N k else N) ∧ Fr g M M' := by
  have hNq := hN.2.2.2.1
  have hNc := hN.2.1
  have hq8 := wq_le hNq
  obtain ⟨q0, q1, q2, q3⟩ := h.2.2.2.2.1.2 k hk
  obtain ⟨e0, l0⟩ := wus_eq hNq hk
  obtain ⟨e1, l1, u1⟩ := wse_eq hNq hk
  obtain ⟨e2, l2, p2⟩ := wti_eq hNq hk
  have e3 := wsh_eq hNq hk
  have hab := c_absorbedBy hN h hk
  have hhi := c_hinderersOf hN h hk
  have hbl := c_blockersOf hN h hk
  have hW := WF_grS hN hx hk
  have hokd : okS N k = (Can N (wus N k) (wse N k) (wsh N k) && !BlkA N k (wse N k) (wsh N k)) := rfl
  have hgl := fun hi => grant_leave (u := wus N k) (s := wse N k) (t := wti N k) (e := wsh N k) hN hk hi
  have hgd : grS N k = grantS (leaveS N k) (wus N k) (wse N k) (wti N k) (wsh N k) := rfl
  have hgw : ∀ hc : Cnt N (wus N k) (wse N k) (wsh N k) < 10, WF (grantS N (wus N k) (wse N k) (wti N k) (wsh N k)) := fun hc => WF_grant hN l0 l1 u1 l2 p2 hc
  have hf1 : f_X5_fact g (nI k) 1 M = some (nI (wse N k)) := by rw [show f_X5_fact g (nI k) 1 M = _ from c_qfact (by omega) (w := 1) (by decide), q1, e1]
  have hf2 : f_X5_fact g (nI k) 2 M = some (nI (wti N k)) := by rw [show f_X5_fact g (nI k) 2 M = _ from c_qfact (by omega) (w := 2) (by decide), q2, e2]
  have hf03 : ∀ M2 : Mem, M2.1 g 13 = M.1 g 13 → f_X5_fact g (nI k) 0 M2 = some (nI (wus N k)) ∧ f_X5_fact g (nI k) 3 M2 = some (b2 (wsh N k)) := fun M2 hM => by
    rw [show f_X5_fact g (nI k) 0 M2 = _ from c_qfact (by omega) (w := 0) (by decide), show f_X5_fact g (nI k) 3 M2 = _ from c_qfact (by omega) (w := 3) (by decide), hM]
    exact ⟨congrArg some (q0.trans e0), congrArg some (q3.trans e3)⟩
  generalize wus N k = u at *
  generalize wse N k = s at *
  generalize wti N k = t at *
  generalize wsh N k = e at *
  have hcnt10 : Cnt N u s e ≤ 10 := cntN_le _ _
  unfold f_X1_lookAt
  rw [hab, Option.bind_some, c_countWithout h]
  by_cases hc : 10 ≤ Cnt N u s e
  · have hno : okS N k = false := by rw [hokd]; unfold Can; rw [decide_eq_true hc]; simp
    rw [if_pos (show (10 : Int32) ≤ nI (Cnt N u s e) from (show nI 10 ≤ nI (Cnt N u s e) from (nI_leI (by omega) (by omega)).mpr hc)), hno]
    exact ⟨M, rfl, h, Fr.rf⟩
  · rw [if_neg (show ¬ (10 : Int32) ≤ nI (Cnt N u s e) from fun z => by have z2 : nI 10 ≤ nI (Cnt N u s e) := z; exact hc ((nI_leI (by omega) (by omega)).mp z2))]
    unfold B_X1_lookAt_24
    rw [if_neg (show ¬ (1 : Int32) = 0 by decide), hhi, Option.bind_some]
    cases hB : anyN (Bar N u s e) 10 with
    | true =>
      have hno : okS N k = false := by rw [hokd]; unfold Can; rw [hB]; rfl
      rw [if_neg (show ¬ orS (Bar N u s e) (usr N) 10 = 0 from fun z => by
        have z2 : orS (Bar N u s e) (usr N) 10 = nI 0 := z
        rw [orS_0 (fun c hc _ => by have := usr_lt hNc hc; omega), hB] at z2
        cases z2), hno]
      exact ⟨M, rfl, h, Fr.rf⟩
    | false =>
      rw [if_pos (show orS (Bar N u s e) (usr N) 10 = 0 from (orS_0 (fun c hc _ => by have := usr_lt hNc hc; omega)).mpr hB), hbl, Option.bind_some]
      have hcan : Can N u s e = true := by unfold Can; rw [hB, decide_eq_false hc]; rfl
      have hbd : BlkA N k s e = anyN (fun j => Blk N j s e) k := rfl
      cases hL : anyN (fun j => Blk N j s e) k with
      | true =>
        have hno : okS N k = false := by rw [hokd, hbd, hL]; simp
        rw [if_neg (show ¬ orS (fun j => Blk N j s e) (wus N) k = 0 from fun z => by
          have z2 : orS (fun j => Blk N j s e) (wus N) k = nI 0 := z
          rw [orS_0 (fun j hj _ => by have := (wus_eq hNq (show j < wq N by omega)).2; omega), hL] at z2
          cases z2), hno]
        exact ⟨M, rfl, h, Fr.rf⟩
      | false =>
        have hyes : okS N k = true := by rw [hokd, hbd, hL, hcan]; rfl
        rw [if_pos (show orS (fun j => Blk N j s e) (wus N) k = 0 from (orS_0 (fun j hj _ => by have := (wus_eq hNq (show j < wq N by omega)).2; omega)).mpr hL), hyes, if_pos rfl, if_pos rfl]
        have hcl : Cnt N u s e < 10 := by omega
        obtain ⟨n1, n2, n3⟩ := its_spec hcl
        rw [c_lowestFree h hcl, Option.bind_some, hf1, Option.bind_some, hf2, Option.bind_some]
        obtain ⟨M1, s1, s2, s3, s4, s5⟩ := c_startCopy (M := M) (g := g) (e := e) (u := u) hN hx h l1 u1 n1
        rw [s1, Option.bind_some]
        unfold f_X0_closeAll
        rw [Option.bind_some]
        have hM2 : (wr M1 g 8 3 (M1.1 g 8 3 &&& (setN (Abs N u s e) 10 ^^^ (-1)))).1 g 13 = M.1 g 13 := by rw [wr_other _ _ _ _ _ (by omega)]; exact s2 13 (by omega) (by omega)
        obtain ⟨f0, f3⟩ := hf03 _ hM2
        rw [f0, Option.bind_some, f3, Option.bind_some, c_open n1, Option.bind_some]
        generalize hM3 : wrs (wr (wr M1 g 8 3 (M1.1 g 8 3 &&& (setN (Abs N u s e) 10 ^^^ (-1)))) g 8 3 ((wr M1 g 8 3 (M1.1 g 8 3 &&& (setN (Abs N u s e) 10 ^^^ (-1)))).1 g 8 3 ||| (nI 1 <<< (nI (itsN N u s e) &&& nI 31)))) g 9 (upd (upd (upd (upd (upd ((wr M1 g 8 3 (M1.1 g 8 3 &&& (setN (Abs N u s e) 10 ^^^ (-1)))).1 g 9) (5 * itsN N u s e + 0) (nI u)) (5 * itsN N u s e + 1) (nI s)) (5 * itsN N u s e + 2) (M.1 g 0 6 + nI t)) (5 * itsN N u s e + 3) (nI 1)) (5 * itsN N u s e + 4) (b2 e)) = M3
        have k8 : M3.1 g 8 3 = (M.1 g 8 3 &&& (setN (Abs N u s e) 10 ^^^ mI)) ||| (nI 1 <<< (nI (itsN N u s e) &&& nI 31)) := by
          rw [← hM3, wrs_other _ _ _ _ (by omega), wr_same, upd_same, wr_same, upd_same, s2 8 (by omega) (by omega)]
          rfl
        have k9 : M3.1 g 9 = upd (upd (upd (upd (upd (M.1 g 9) (5 * itsN N u s e + 0) (nI u)) (5 * itsN N u s e + 1) (nI s)) (5 * itsN N u s e + 2) (M.1 g 0 6 + nI t)) (5 * itsN N u s e + 3) (nI 1)) (5 * itsN N u s e + 4) (b2 e) := by
          rw [← hM3, wrs_same, wr_other _ _ _ _ _ (by omega), s2 9 (by omega) (by omega)]
        have kj : ∀ j, j ≠ 8 → j ≠ 9 → M3.1 g j = M1.1 g j := fun j h1 h2 => by
          rw [← hM3, wrs_other _ _ _ _ (by omega), wr_other _ _ _ _ _ (by omega), wr_other _ _ _ _ _ (by omega)]
        have km : ∀ j, j ≠ 8 → j ≠ 9 → j ≠ 10 → j ≠ 11 → M3.1 g j = M.1 g j := fun j h1 h2 h3 h4 => (kj j h1 h2).trans (s2 j h3 h4)
        have kF : Fr g M M3 := by
          rw [← hM3]
          exact ((s3.tr (Fr_wr _ _ _ _ _)).tr (Fr_wr _ _ _ _ _)).tr (Fr_wrs _ _ _ _)
        clear hM3
        obtain ⟨g0, g1, g2, g3, g4, g5⟩ := gr_n (N := N) (u := u) (s := s) (t := t) (e := e) (w := 0) n1
        have glo : eqR 0 202 (grantS N u s t e) N := gr_lo
        have gck := fun c (hc : c < 10) => gr_ck (N := N) (u := u) (s := s) (t := t) (e := e) n1 hc
        have gfo := fun c w (hc : c < 10) (h0 : 0 < w) (hw : w < 6) (hne : c ≠ itsN N u s e) => (gr_f (N := N) (u := u) (s := s) (t := t) (e := e) hc hw hne).trans (clrS_o 10 h0 hw)
        have gco := fun c x (hx : x < 240) (hc : c < 10) (hne : c ≠ itsN N u s e) => gr_co (N := N) (u := u) (s := s) (t := t) (e := e) n1 hx hc hne
        have gcn := fun x (hx : x < 240) => gr_cn (N := N) (u := u) (s := s) (t := t) (e := e) hx
        have ghi := fun x (hx : 2662 ≤ x) => gr_hi (N := N) (u := u) (s := s) (t := t) (e := e) n1 hx
        have gso := fun c (hc : c < 10) (hne : c ≠ itsN N u s e) => gr_seco (N := N) (u := u) (s := s) (t := t) (e := e) hc hne
        have gsn : sec (grantS N u s t e) (itsN N u s e) = s := gr_sec n1 l1
        have hgW := hgw hcl
        have hgle := hgl n1
        have hfr : ∀ i, i < 32 → bt (M.1 g 8 3 &&& (setN (Abs N u s e) 10 ^^^ mI)) i = (decide (i < 10) && frN N u s e i) := fun i hi => bt_free h hi
        have h06 : M.1 g 0 6 = N 0 := h.2.2.2.2.2.2.1
        have hRD : RD (M3.1 g) (grantS N u s t e) := by
          generalize grantS N u s t e = R at *
          generalize itsN N u s e = n at *
          have h00 : eqR 0 62 R N := glo.sub (by omega) (by omega)
          obtain ⟨a1, a2, a3, a4, a5, a6, a7⟩ := h
          refine ⟨RDt_D (km 2 (by omega) (by omega) (by omega) (by omega)) (km 4 (by omega) (by omega) (by omega) (by omega)) (km 5 (by omega) (by omega) (by omega) (by omega)) (km 6 (by omega) (by omega) (by omega) (by omega)) (km 7 (by omega) (by omega) (by omega) (by omega)) (RDt_cg h00 (glo.sub (by omega) (by omega)) (glo.sub (by omega) (by omega)) hN.1 a1),
            RDs_D (km 1 (by omega) (by omega) (by omega) (by omega)) (km 3 (by omega) (by omega) (by omega) (by omega)) (RDs_cg h00 a2), ⟨fun i hi => ?_, fun c hc hk => ?_⟩, fun c s' l hc hs' hl hk hu ha => ?_,
            RDq_D (km 12 (by omega) (by omega) (by omega) (by omega)) (km 13 (by omega) (by omega) (by omega) (by omega)) (RDq_cg (fun x h1 _ => ghi x h1) hNq a5),
            RDh_D (km 14 (by omega) (by omega) (by omega) (by omega)) (km 15 (by omega) (by omega) (by omega) (by omega)) (RDh_cg (fun x h1 _ => ghi x (by omega)) hN.2.2.2.2.2 a6),
            RDu_D (km 0 (by omega) (by omega) (by omega) (by omega)) (km 16 (by omega) (by omega) (by omega) (by omega)) (RDu_cg (glo 0 (by omega) (by omega)) (fun x h1 _ => ghi x (by omega)) a7)⟩
          · rw [k8, bt_or, hfr i hi, bt_one n (by omega) i hi]
            by_cases h10 : i < 10
            · rw [gck i h10, decide_eq_true h10]
              cases frN N u s e i <;> cases decide (i = n) <;> rfl
            · rw [decide_eq_false h10, decide_eq_false (show ¬ i = n by omega)]
              rfl
          · rw [k9]
            by_cases hcn : c = n
            · subst hcn
              rw [g1, g2, g3, g4, g5, ← h06]
              refine ⟨?_, ?_, ?_, ?_, ?_⟩
              · rw [upd_other (by omega), upd_other (by omega), upd_other (by omega), upd_other (by omega)]; exact upd_same
              · rw [upd_other (by omega), upd_other (by omega), upd_other (by omega), upd_same]
              · rw [upd_other (by omega), upd_other (by omega), upd_same]
              · rw [upd_other (by omega), upd_same]
              · rw [upd_same]
            · rw [gck c hc, decide_eq_false hcn, Bool.false_or] at hk
              unfold frN at hk
              rw [Bool.and_eq_true] at hk
              rw [gfo c 1 hc (by omega) (by omega) hcn, gfo c 2 hc (by omega) (by omega) hcn, gfo c 3 hc (by omega) (by omega) hcn, gfo c 4 hc (by omega) (by omega) hcn, gfo c 5 hc (by omega) (by omega) hcn]
              have hup : ∀ w, w < 5 → upd (upd (upd (upd (upd (M.1 g 9) (5 * n + 0) (nI u)) (5 * n + 1) (nI s)) (5 * n + 2) (M.1 g 0 6 + nI t)) (5 * n + 3) (nI 1)) (5 * n + 4) (b2 e) (5 * c + w) = M.1 g 9 (5 * c + w) := fun w hw => by
                rw [upd_other (by omega), upd_other (by omega), upd_other (by omega), upd_other (by omega), upd_other (by omega)]
              obtain ⟨b0, b1, b2', b3, b4⟩ := a3.2 c hc hk.1
              exact ⟨(hup 0 (by omega)).trans b0, (hup 1 (by omega)).trans b1, (hup 2 (by omega)).trans b2', (hup 3 (by omega)).trans b3, (hup 4 (by omega)).trans b4⟩
          · rw [us_cg h00 hs'] at hu
            rw [An_cg h00 hN.1 hs' hu] at ha
            rw [kj 10 (by omega) (by omega), kj 11 (by omega) (by omega)]
            by_cases hcn : c = n
            · subst hcn
              rw [gsn] at ha
              have d1 := gcn (12 * s' + 2 * l) (by omega)
              have d2 := gcn (12 * s' + 2 * l + 1) (by omega)
              rw [show 262 + 240 * c + 12 * s' + 2 * l = 262 + 240 * c + (12 * s' + 2 * l) by omega, show 262 + 240 * c + (12 * s' + 2 * l) + 1 = 262 + 240 * c + (12 * s' + 2 * l + 1) by omega, d1, d2]
              have := s5 (6 * s' + l) (by omega) (by rw [cell_div hl]; exact hu) (by rw [cell_div hl]; exact ha)
              rw [cell_div hl, cell_mod hl] at this
              exact this
            · rw [gck c hc, decide_eq_false hcn, Bool.false_or] at hk
              unfold frN at hk
              rw [Bool.and_eq_true] at hk
              rw [gso c hc hcn] at ha
              have d1 := gco c (12 * s' + 2 * l) (by omega) hc hcn
              have d2 := gco c (12 * s' + 2 * l + 1) (by omega) hc hcn
              rw [show 262 + 240 * c + 12 * s' + 2 * l = 262 + 240 * c + (12 * s' + 2 * l) by omega, show 262 + 240 * c + (12 * s' + 2 * l) + 1 = 262 + 240 * c + (12 * s' + 2 * l + 1) by omega, d1, d2]
              have hc10 := (s4 (120 * c + (6 * s' + l)) (by omega))
              rw [hc10.1, hc10.2]
              have := a4 c s' l hc hs' hl hk.1 hu ha
              rw [show 262 + 240 * c + 12 * s' + 2 * l = 262 + 240 * c + (12 * s' + 2 * l) by omega, show 262 + 240 * c + (12 * s' + 2 * l) + 1 = 262 + 240 * c + (12 * s' + 2 * l + 1) by omega] at this
              exact this
        have hwg : wq (grantS N u s t e) = wq N := by unfold wq; rw [ghi 2662 (by omega)]
        obtain ⟨M4, m1, m2, m3⟩ := c_leaveR hgW hRD (k := k) (by rw [hwg]; exact hk)
        refine ⟨M4, by rw [m1]; rfl, ?_, kF.tr m3⟩
        rw [hgd]
        exact RD_cgA hgle (WF_leave hgW (by rw [hwg]; exact hk)) m2
end SV
