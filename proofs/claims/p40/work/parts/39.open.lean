/-! ===== a request is granted: the row, the class ===== -/
section GS
variable {N : Row} {u s t : Nat} {e : Bool}
theorem opS_o {R : Row} {n k : Nat} (h : k < 202 + 6 * n ∨ 202 + 6 * n + 6 ≤ k) : opS R n u s t e k = R k := by
  unfold opS
  rw [upd_other (by omega), upd_other (by omega), upd_other (by omega), upd_other (by omega), upd_other (by omega), upd_other (by omega)]
theorem gr_lo : eqR 0 202 (grantS N u s t e) N := fun k h1 h2 => by
  unfold grantS cpS
  rw [if_neg (by omega), opS_o (by omega)]
  exact clrS_lo 10 k h1 h2
theorem gr_hi (hi : itsN N u s e < 10) {k : Nat} (hk : 2662 ≤ k) : grantS N u s t e k = N k := by
  unfold grantS cpS
  rw [if_neg (by omega), opS_o (by omega)]
  exact clrS_hi 10 (by omega) k (by omega)
theorem gr_f {c w : Nat} (hc : c < 10) (hw : w < 6) (h : c ≠ itsN N u s e) : grantS N u s t e (202 + 6 * c + w) = clrS N u s e 10 (202 + 6 * c + w) := by
  unfold grantS cpS
  rw [if_neg (by omega), opS_o (by omega)]
theorem gr_n {w : Nat} (hi : itsN N u s e < 10) : grantS N u s t e (202 + 6 * itsN N u s e) = nI 1 ∧ grantS N u s t e (202 + 6 * itsN N u s e + 1) = nI u ∧ grantS N u s t e (202 + 6 * itsN N u s e + 2) = nI s ∧ grantS N u s t e (202 + 6 * itsN N u s e + 3) = N 0 + nI t ∧ grantS N u s t e (202 + 6 * itsN N u s e + 4) = nI 1 ∧ grantS N u s t e (202 + 6 * itsN N u s e + 5) = b2 e := by
  unfold grantS cpS
  generalize itsN N u s e = n at hi ⊢
  rw [if_neg (by omega), if_neg (by omega), if_neg (by omega), if_neg (by omega), if_neg (by omega), if_neg (by omega)]
  unfold opS
  refine ⟨?_, ?_, ?_, ?_, ?_, ?_⟩
  · rw [upd_other (by omega), upd_other (by omega), upd_other (by omega), upd_other (by omega), upd_other (by omega), upd_same]
  · rw [upd_other (by omega), upd_other (by omega), upd_other (by omega), upd_other (by omega), upd_same]
  · rw [upd_other (by omega), upd_other (by omega), upd_other (by omega), upd_same]
  · rw [upd_other (by omega), upd_other (by omega), upd_same, clrS_lo 10 0 (by omega) (by omega)]
  · rw [upd_other (by omega), upd_same]
  · rw [upd_same]
theorem gr_ck {c : Nat} (hi : itsN N u s e < 10) (hc : c < 10) : ck (grantS N u s t e) c = (decide (c = itsN N u s e) || frN N u s e c) := by
  by_cases h : c = itsN N u s e
  · subst h
    rw [decide_eq_true rfl, Bool.true_or]
    unfold ck
    rw [(gr_n (w := 0) (t := t) hi).1]
    exact decide_eq_true rfl
  · rw [decide_eq_false h, Bool.false_or]
    have e1 : ck (grantS N u s t e) c = ck (clrS N u s e 10) c := by
      unfold ck
      rw [show 202 + 6 * c = 202 + 6 * c + 0 from rfl, gr_f hc (by omega) h]
    rw [e1, clrS_ck, decide_eq_true hc, Bool.true_and]
    rfl
theorem gr_sec (hi : itsN N u s e < 10) (hs : s < 20) : sec (grantS N u s t e) (itsN N u s e) = s := by
  unfold sec
  rw [(gr_n (w := 0) (t := t) hi).2.2.1, cl_nI (by omega)]
theorem gr_seco {c : Nat} (hc : c < 10) (h : c ≠ itsN N u s e) : sec (grantS N u s t e) c = sec N c := by
  unfold sec
  rw [gr_f hc (by omega) h, clrS_o 10 (by omega) (by omega)]
theorem gr_sho {c : Nat} (hc : c < 10) (h : c ≠ itsN N u s e) : sh (grantS N u s t e) c = sh N c := by
  unfold sh
  rw [gr_f hc (by omega) h, clrS_o 10 (by omega) (by omega)]
theorem gr_hdo {c : Nat} (hc : c < 10) (h : c ≠ itsN N u s e) : hd (grantS N u s t e) c = hd N c := by
  unfold hd
  rw [gr_f hc (by omega) h, clrS_o 10 (by omega) (by omega)]
theorem gr_co {c x : Nat} (hi : itsN N u s e < 10) (hx : x < 240) (hc : c < 10) (h : c ≠ itsN N u s e) : grantS N u s t e (262 + 240 * c + x) = N (262 + 240 * c + x) := by
  unfold grantS cpS
  rw [if_neg (by omega), opS_o (by omega)]
  exact clrS_hi 10 (by omega) _ (by omega)
theorem gr_cn {x : Nat} (hx : x < 240) : grantS N u s t e (262 + 240 * itsN N u s e + x) = tkR N u s e 10 x := by
  unfold grantS cpS
  rw [if_pos (by omega)]
  congr 1
  omega
theorem tkR_v (hN : WFl N) : ∀ i, i ≤ 10 → ∀ x, x < 240 → tkR N u s e i x = nI (cl (tkR N u s e i x)) ∧ cl (tkR N u s e i x) < 1000
  | 0, _, x, hx => hN.1 (x / 2) (by omega)
  | i + 1, hi, x, hx => by
    rw [tkR]
    by_cases h : ((Abs N u s e i && !sh N i) && cop N i (x / 12)) = true
    · rw [if_pos h]
      have := hN.2 (240 * i + x) (by omega)
      rw [show 262 + (240 * i + x) = 262 + 240 * i + x by omega] at this
      exact this
    · rw [if_neg h]
      exact tkR_v hN i (by omega) x hx
theorem WF_grant (hN : WF N) (hu : u < 6) (hs : s < 20) (hus : us N s = true) (ht : t ≤ 1000) (ht0 : 0 < t) (hc : Cnt N u s e < 10) : WF (grantS N u s t e) := by
  obtain ⟨n1, n2, n3⟩ := its_spec hc
  have hcl := WFc_clr (u := u) (s := s) (e := e) hN.2.1 10 (by omega)
  have h00 : eqR 0 62 (grantS N u s t e) N := gr_lo.sub (by omega) (by omega)
  have hcl0 : clrS N u s e 10 0 = N 0 := clrS_lo 10 0 (by omega) (by omega)
  have hR0 : grantS N u s t e 0 = N 0 := gr_lo 0 (by omega) (by omega)
  have hT0 := hN.2.1.1
  refine ⟨WFt_cg h00 hN.1, ⟨isV_cg hR0 hN.2.1.1, fun c hc10 => ?_⟩, ⟨fun k hk => isV_cg (gr_lo _ (by omega) (by omega)) (hN.2.2.1.1 k hk), fun k hk => ?_⟩, WFq_cg h00 (fun k h _ => gr_hi n1 h) hN.2.2.2.1, WFu_cg hR0 (fun k h _ => gr_hi n1 (by omega)) hN.2.2.2.2.1, WFh_cg (fun k h _ => gr_hi n1 (by omega)) hN.2.2.2.2.2⟩
  · by_cases h : c = itsN N u s e
    · subst h
      obtain ⟨g0, g1, g2, g3, g4, g5⟩ := gr_n (N := N) (u := u) (s := s) (t := t) (e := e) (w := 0) n1
      have e1 : sec (grantS N u s t e) (itsN N u s e) = s := gr_sec n1 hs
      rw [e1]
      unfold isV hel ck hd sh
      rw [g0, g1, g2, g3, g4, g5, hR0, hT0.1, nI_add]
      unfold b2
      have := hT0.2
      have hb : cl (nI e.toNat) = e.toNat := cl_nI (by cases e <;> decide)
      have hb2 : e.toNat < 2 := by cases e <;> decide
      rw [hb, cl_nI (n := 1) (by omega), cl_nI (n := u) (by omega), cl_nI (n := s) (by omega), cl_nI (n := cl (N 0) + t) (by omega), cl_nI (n := cl (N 0)) (by omega)]
      refine ⟨⟨rfl, by omega⟩, ⟨rfl, hu⟩, ⟨rfl, by omega⟩, ⟨rfl, hb2⟩, fun _ => ⟨⟨rfl, hs⟩, ?_, fun _ => rfl⟩, fun _ => ⟨rfl, by omega, by omega⟩⟩
      rw [us_cg h00 hs]
      exact hus
    · obtain ⟨a1, a2, a3, a4, a5, a6⟩ := hcl.2 c hc10
      have eck : ck (grantS N u s t e) c = ck (clrS N u s e 10) c := by
        unfold ck
        rw [show 202 + 6 * c = 202 + 6 * c + 0 from rfl, gr_f hc10 (by omega) h]
      have esec : sec (grantS N u s t e) c = sec (clrS N u s e 10) c := by unfold sec; rw [gr_f hc10 (by omega) h]
      have ehd : hd (grantS N u s t e) c = hd (clrS N u s e 10) c := by unfold hd; rw [gr_f hc10 (by omega) h]
      have esh : sh (grantS N u s t e) c = sh (clrS N u s e 10) c := by unfold sh; rw [gr_f hc10 (by omega) h]
      unfold hel
      rw [eck, esec, ehd, esh, hR0]
      refine ⟨isV_cg (gr_f (w := 0) hc10 (by omega) h) a1, isV_cg (gr_f hc10 (by omega) h) a2, isV_cg (gr_f hc10 (by omega) h) a3, isV_cg (gr_f hc10 (by omega) h) a4, fun hk => ?_, fun hk => ?_⟩
      · obtain ⟨b1, b2', b3⟩ := a5 hk
        refine ⟨isV_cg (gr_f hc10 (by omega) h) b1, ?_, b3⟩
        have b4 : sec (clrS N u s e 10) c < 20 := b1.2
        rw [us_cg h00 b4]
        rw [us_cg ((clrS_lo 10).sub (by omega) (by omega)) b4] at b2'
        exact b2'
      · rw [gr_f hc10 (by omega) h, ← hcl0]
        exact a6 hk
  · by_cases h : k / 240 = itsN N u s e
    · have hv := tkR_v (u := u) (s := s) (e := e) hN.2.2.1 10 (by omega) (k % 240) (by omega)
      unfold isV
      rw [show 262 + k = 262 + 240 * itsN N u s e + k % 240 by omega, gr_cn (by omega)]
      exact hv
    · refine isV_cg ?_ (hN.2.2.1.2 k hk)
      rw [show 262 + k = 262 + 240 * (k / 240) + k % 240 by omega]
      exact gr_co n1 (by omega) (by omega) h
theorem WFx_grant (hN : WF N) (hx : WFx N) (hs : s < 20) (hus : us N s = true) (hcan : Can N u s e = true) : WFx (grantS N u s t e) := by
  unfold Can at hcan
  rw [Bool.and_eq_true, Bool.not_eq_true', Bool.not_eq_true', decide_eq_false_iff_not] at hcan
  have hb := anyN_f.mp hcan.1
  obtain ⟨n1, n2, n3⟩ := its_spec (u := u) (s := s) (e := e) (N := N) (by omega)
  have h00 : eqR 0 62 (grantS N u s t e) N := gr_lo.sub (by omega) (by omega)
  have old : ∀ c, c < 10 → c ≠ itsN N u s e → hel (grantS N u s t e) c = true → hel N c = true ∧ Abs N u s e c = false := by
    intro c hc h hh
    unfold hel at hh
    rw [gr_ck n1 hc, decide_eq_false h, Bool.false_or, gr_hdo hc h] at hh
    unfold frN at hh
    rw [Bool.and_eq_true, Bool.and_eq_true, Bool.not_eq_true'] at hh
    exact ⟨by unfold hel; rw [hh.1.1, hh.2]; rfl, hh.1.2⟩
  have new : ∀ c, c < 10 → c ≠ itsN N u s e → hel (grantS N u s t e) c = true → Ov N s (sec N c) = true → e = true ∧ sh N c = true := by
    intro c hc h hh ho
    obtain ⟨h1, h2⟩ := old c hc h hh
    have := hb c hc
    unfold Bar at this
    rw [h1, ho, h2] at this
    cases e <;> cases h3 : sh N c <;> simp [h3] at this ⊢
  have shn : e = true → sh (grantS N u s t e) (itsN N u s e) = true := fun he => by
    unfold sh
    rw [(gr_n (w := 0) (t := t) n1).2.2.2.2.2, he]
    exact decide_eq_true rfl
  intro c c' h1 h2 h3 h4 h5 h6
  by_cases hc : c = itsN N u s e
  · have hc' : c' ≠ itsN N u s e := fun z => h3 (hc.trans z.symm)
    have hk := hel_ck (old c' h2 hc' h5).1
    rw [hc, gr_sec n1 hs, gr_seco h2 hc', Ov_cg h00 hN.1 hs hus (sec_lt hN.2.1 h2 hk) (sec_us hN.2.1 h2 hk)] at h6
    obtain ⟨a, b⟩ := new c' h2 hc' h5 h6
    rw [hc, gr_sho h2 hc']
    exact ⟨shn a, b⟩
  · have hk := hel_ck (old c h1 hc h4).1
    by_cases hc' : c' = itsN N u s e
    · rw [hc', gr_sec n1 hs, gr_seco h1 hc, Ov_cg h00 hN.1 (sec_lt hN.2.1 h1 hk) (sec_us hN.2.1 h1 hk) hs hus, Ov_comm] at h6
      obtain ⟨a, b⟩ := new c h1 hc h4 h6
      rw [hc', gr_sho h1 hc]
      exact ⟨b, shn a⟩
    · have hk' := hel_ck (old c' h2 hc' h5).1
      rw [gr_seco h1 hc, gr_seco h2 hc', Ov_cg h00 hN.1 (sec_lt hN.2.1 h1 hk) (sec_us hN.2.1 h1 hk) (sec_lt hN.2.1 h2 hk') (sec_us hN.2.1 h2 hk')] at h6
      rw [gr_sho h1 hc, gr_sho h2 hc']
      exact hx c c' h1 h2 h3 (old c h1 hc h4).1 (old c' h2 hc' h5).1 h6
def absX (N : Row) (u s : Nat) (e : Bool) (c : Nat) : Bool := Abs N u s e c && !sh N c
def anyX (N : Row) (u s : Nat) (e : Bool) (i s' : Nat) : Bool := anyN (fun c => absX N u s e c && cop N c s') i
def tkD (D : Nat → Int32) (N : Row) (u s : Nat) (e : Bool) (n : Nat) : Nat → Nat → Int32
  | 0, k => D (120 * n + k)
  | c + 1, k => if (absX N u s e c && cop N c (k / 6)) = true then D (120 * c + k) else tkD D N u s e n c k
theorem tkD_own (D : Nat → Int32) (hN : WF N) (hx : WFx N) {n k : Nat} (hn : n < 10) (hA : absX N u s e n = true) (hcp : cop N n (k / 6) = true) (hk : k < 120) : ∀ i, i ≤ n → tkD D N u s e n i k = D (120 * n + k)
  | 0, _ => rfl
  | i + 1, hi => by
    rw [tkD, if_neg (fun h => ?_)]
    · exact tkD_own D hN hx hn hA hcp hk i (by omega)
    · rw [Bool.and_eq_true] at h
      have h1 := h.1
      unfold absX at h1 hA
      rw [Bool.and_eq_true, Bool.not_eq_true'] at h1 hA
      have hA1 := (Abs_sec h1.1).1
      have hA2 := (Abs_sec hA.1).1
      have c1 := h.2
      have c2 := hcp
      unfold cop at c1 c2
      rw [Bool.and_eq_true] at c1 c2
      have := hx i n (by omega) hn (by omega) hA1 hA2 (An_cmp hN.1 (k / 6) (by omega) c1.1 c1.2 c2.2)
      rw [h1.2] at this
      cases this.1
theorem tkR_lin {k : Nat} : ∀ i, anyX N u s e i (k / 6) = false → tkR N u s e i (12 * (k / 6) + 2 * (k % 6)) = lin N k ∧ tkR N u s e i (12 * (k / 6) + 2 * (k % 6) + 1) = lin N k
  | 0, _ => by
    unfold tkR lin
    exact ⟨by congr 1; omega, by congr 1; omega⟩
  | i + 1, h => by
    unfold anyX at h
    rw [anyN_s, Bool.or_eq_false_iff] at h
    have h2 := h.2
    unfold absX at h2
    rw [tkR, tkR, show (12 * (k / 6) + 2 * (k % 6)) / 12 = k / 6 by omega, show (12 * (k / 6) + 2 * (k % 6) + 1) / 12 = k / 6 by omega, h2]
    exact tkR_lin i h.1
theorem tkD_R {M : Mem} {g : Nat} (hk : RDk (M.1 g) N) {n k : Nat} (h120 : k < 120) : ∀ i, i ≤ 10 → anyX N u s e i (k / 6) = true → tkD (M.1 g 10) N u s e n i k = tkR N u s e i (12 * (k / 6) + 2 * (k % 6)) ∧ tkD (M.1 g 11) N u s e n i k = tkR N u s e i (12 * (k / 6) + 2 * (k % 6) + 1)
  | 0, _, h => by cases h
  | i + 1, hi, h => by
    unfold anyX at h
    rw [anyN_s] at h
    rw [tkR, tkR, tkD, tkD, show (12 * (k / 6) + 2 * (k % 6)) / 12 = k / 6 by omega, show (12 * (k / 6) + 2 * (k % 6) + 1) / 12 = k / 6 by omega]
    show (if (absX N u s e i && cop N i (k / 6)) = true then _ else _) = (if (absX N u s e i && cop N i (k / 6)) = true then _ else _) ∧ (if (absX N u s e i && cop N i (k / 6)) = true then _ else _) = (if (absX N u s e i && cop N i (k / 6)) = true then _ else _)
    by_cases h2 : (absX N u s e i && cop N i (k / 6)) = true
    · rw [if_pos h2, if_pos h2, if_pos h2, if_pos h2]
      rw [Bool.and_eq_true] at h2
      have h3 := h2.1
      unfold absX at h3
      rw [Bool.and_eq_true] at h3
      obtain ⟨r1, r2⟩ := r_bas hk (c := i) (k := k) (by omega) h120 (hel_ck (Abs_sec h3.1).1) h2.2
      rw [r1, r2]
      unfold bas own
      exact ⟨by congr 1; omega, by congr 1; omega⟩
    · rw [if_neg h2, if_neg h2, if_neg h2, if_neg h2]
      rw [Bool.eq_false_iff.mpr h2, Bool.or_false] at h
      exact tkD_R hk h120 i (by omega) h
theorem c_startCopy {M : Mem} {g n : Nat} (hN : WF N) (hx : WFx N) (h : RD (M.1 g) N) (hs : s < 20) (hus : us N s = true) (hn : n < 10) : ∃ M', f_X1_startCopy g (nI n) (nI s) (setN (Abs N u s e) 10) M = some M' ∧ (∀ j, j ≠ 10 → j ≠ 11 → M'.1 g j = M.1 g j) ∧ Fr g M M' ∧ (∀ x, x < 120 * n ∨ 120 * n + 120 ≤ x → M'.1 g 10 x = M.1 g 10 x ∧ M'.1 g 11 x = M.1 g 11 x) ∧ (∀ k, k < 120 → us N (k / 6) = true → An N (k / 6) s = true → M'.1 g 10 (120 * n + k) = tkR N u s e 10 (12 * (k / 6) + 2 * (k % 6)) ∧ M'.1 g 11 (120 * n + k) = tkR N u s e 10 (12 * (k / 6) + 2 * (k % 6) + 1)) := by
  obtain ⟨ht, -, hc, hkk, -⟩ := h
  have hNc := hN.2.1
  unfold f_X1_startCopy
  rw [c_subtreeOf, Option.bind_some]
  refine loopE (fun m (σ : Int32 × Int32 × Mem) => L_X1_startCopy_13 g (nI n) (setN (Abs N u s e) 10) m σ.1 σ.2.1 σ.2.2) (fun i σ => ∃ S M', σ = (S, nI i, M') ∧ (∀ s', s' < 32 → bt S s' = ((decide (s' < 20) && (us N s' && An N s' s)) && !anyX N u s e i s')) ∧ (∀ j, j ≠ 10 → j ≠ 11 → M'.1 g j = M.1 g j) ∧ Fr g M M' ∧ (∀ x, x < 120 * n ∨ 120 * n + 120 ≤ x → M'.1 g 10 x = M.1 g 10 x ∧ M'.1 g 11 x = M.1 g 11 x) ∧ (∀ k, k < 120 → M'.1 g 10 (120 * n + k) = tkD (M.1 g 10) N u s e n i k ∧ M'.1 g 11 (120 * n + k) = tkD (M.1 g 11) N u s e n i k)) 10 (fun m i σ hi hσ => ?_) (fun m σ hσ => ?_) FU (by decide) (rowAt (M.1 g 6) (nI s) 20, nI 0, M) ⟨_, M, rfl, fun s' hs' => ?_, fun _ _ _ => rfl, Fr.rf, fun _ _ => ⟨rfl, rfl⟩, fun _ _ => ⟨rfl, rfl⟩⟩
  · obtain ⟨S, M1, rfl, a1, a2, a3, a4, a5⟩ := hσ
    show ∃ s', L_X1_startCopy_13 g (nI n) _ (m + 1) _ _ _ = L_X1_startCopy_13 g (nI n) _ m _ _ _ ∧ _
    have hc1 : RDc (M1.1 g) N := RDc_D (a2 8 (by omega) (by omega)) (a2 9 (by omega) (by omega)) hc
    have ht1 : RDt (M1.1 g) N := RDt_D (a2 2 (by omega) (by omega)) (a2 4 (by omega) (by omega)) (a2 5 (by omega) (by omega)) (a2 6 (by omega) (by omega)) (a2 7 (by omega) (by omega)) ht
    have hA : bt (setN (Abs N u s e) 10) i = Abs N u s e i := by rw [bt_setN (by omega) i (by omega), decide_eq_true hi, Bool.true_and]
    rw [L_X1_startCopy_13, c_isShared hc1, isC_nI hi, cl_nI (by omega)]
    unfold B_X1_startCopy_81
    have skip : absX N u s e i = false → (∀ s', anyX N u s e (i + 1) s' = anyX N u s e i s') ∧ ∀ D k, tkD D N u s e n (i + 1) k = tkD D N u s e n i k := fun h => ⟨fun s' => by unfold anyX; rw [anyN_s, h, Bool.false_and, Bool.or_false], fun D k => by rw [tkD, h]; rfl⟩
    cases hab : Abs N u s e i with
    | false =>
      obtain ⟨k1, k2⟩ := skip (by unfold absX; rw [hab]; rfl)
      refine ⟨(S, nI (i + 1), M1), ?_, S, M1, rfl, fun s' hs' => by rw [k1]; exact a1 s' hs', a2, a3, a4, fun k hk => by rw [k2, k2]; exact a5 k hk⟩
      simp (disch := omega) only [↓ite_b2r, ↓ite_nb2r, ↓lit_m1, ↓lit_m2, lit_0, lit_1, lit_2, lit_3, lit_4, lit_5, lit_6, lit_7, lit_8, lit_9, lit_10, lit_11, lit_12, lit_13, lit_14, lit_15, lit_16, lit_17, lit_18, lit_19, lit_20, lit_21, lit_22, lit_23, lit_24, lit_25, lit_26, lit_27, lit_28, lit_29, lit_30, lit_31, lit_32, lit_33, lit_34, lit_35, lit_36, lit_40, lit_41, lit_42, lit_44, lit_48, lit_57, lit_59, lit_62, lit_63, lit_64, lit_82, lit_98, lit_99, lit_100, lit_101, lit_102, lit_103, lit_104, lit_105, lit_106, lit_107, lit_108, lit_109, lit_110, lit_111, lit_112, lit_113, lit_119, lit_120, lit_127, lit_128, lit_149, lit_150, lit_202, lit_240, lit_262, lit_894, lit_900, lit_999, lit_1000, lit_2000, lit_2662, lit_2663, lit_2695, lit_2701, lit_2702, lit_3602, lit_10806, nI_add, pk_mul, cl_nI, inb_nI, nI_leI, nI_ltI, nI_eq, nI_eq_m1, m1_eq_nI, nI_eq_m2, div_nI, rem_nI, Option.bind_some, b2_0, b2_1, isb_b2, if_true_, if_false_, ↓reduceIte, reduceCtorEq, not_true_eq_false, not_false_eq_true, bt_hasBit, ult, Nat.add_zero, false_and, true_and, and_true, and_false, Nat.reduceLeDiff, Nat.reduceEqDiff, Nat.reduceLT, Bool.toNat_true, Bool.toNat_false, decide_true, decide_false, Bool.not_true, Bool.not_false, Bool.false_and, Bool.true_and, Bool.and_true, Bool.and_false, Bool.or_false, Bool.true_or, Bool.or_true, Bool.false_or, Nat.not_le.mpr hi, hA, hab]
    | true =>
      have hk := hel_ck (Abs_sec hab).1
      cases hsh : sh N i with
      | true =>
        obtain ⟨k1, k2⟩ := skip (by unfold absX; rw [hsh]; simp)
        refine ⟨(S, nI (i + 1), M1), ?_, S, M1, rfl, fun s' hs' => by rw [k1]; exact a1 s' hs', a2, a3, a4, fun k hk => by rw [k2, k2]; exact a5 k hk⟩
        simp (disch := omega) only [↓ite_b2r, ↓ite_nb2r, ↓lit_m1, ↓lit_m2, lit_0, lit_1, lit_2, lit_3, lit_4, lit_5, lit_6, lit_7, lit_8, lit_9, lit_10, lit_11, lit_12, lit_13, lit_14, lit_15, lit_16, lit_17, lit_18, lit_19, lit_20, lit_21, lit_22, lit_23, lit_24, lit_25, lit_26, lit_27, lit_28, lit_29, lit_30, lit_31, lit_32, lit_33, lit_34, lit_35, lit_36, lit_40, lit_41, lit_42, lit_44, lit_48, lit_57, lit_59, lit_62, lit_63, lit_64, lit_82, lit_98, lit_99, lit_100, lit_101, lit_102, lit_103, lit_104, lit_105, lit_106, lit_107, lit_108, lit_109, lit_110, lit_111, lit_112, lit_113, lit_119, lit_120, lit_127, lit_128, lit_149, lit_150, lit_202, lit_240, lit_262, lit_894, lit_900, lit_999, lit_1000, lit_2000, lit_2662, lit_2663, lit_2695, lit_2701, lit_2702, lit_3602, lit_10806, nI_add, pk_mul, cl_nI, inb_nI, nI_leI, nI_ltI, nI_eq, nI_eq_m1, m1_eq_nI, nI_eq_m2, div_nI, rem_nI, Option.bind_some, b2_0, b2_1, isb_b2, if_true_, if_false_, ↓reduceIte, reduceCtorEq, not_true_eq_false, not_false_eq_true, bt_hasBit, ult, Nat.add_zero, false_and, true_and, and_true, and_false, Nat.reduceLeDiff, Nat.reduceEqDiff, Nat.reduceLT, Bool.toNat_true, Bool.toNat_false, decide_true, decide_false, Bool.not_true, Bool.not_false, Bool.false_and, Bool.true_and, Bool.and_true, Bool.and_false, Bool.or_false, Bool.true_or, Bool.or_true, Bool.false_or, Nat.not_le.mpr hi, hA, hab, hk]
      | false =>
        have hax : absX N u s e i = true := by unfold absX; rw [hab, hsh]; rfl
        have hp := fun s' (hs' : s' < 32) => bt_secs ht1 hc1 hNc hi hk hs'
        rw [show f_X0_fact g (nI i) 1 M1 = _ from c_fact hc1 (nI i) (w := 1) (by decide)]
        generalize hP : rowAt (M1.1 g 6) (fac (M1.1 g) N (nI i) 1) 20 = P at hp
        obtain ⟨M2, o1, o2, o3, o4, o5⟩ := c_copyOther (M := M1) (g := g) (n := n) (c := i) hn hi P
        refine ⟨(S &&& (P ^^^ mI), nI (i + 1), M2), ?_, _, M2, rfl, fun s' hs' => ?_, fun j h1 h2 => (o4 j h1 h2).trans (a2 j h1 h2), a3.tr o5, fun x hx => ?_, fun k hk2 => ?_⟩
        · simp (disch := omega) only [↓ite_b2r, ↓ite_nb2r, ↓lit_m1, ↓lit_m2, lit_0, lit_1, lit_2, lit_3, lit_4, lit_5, lit_6, lit_7, lit_8, lit_9, lit_10, lit_11, lit_12, lit_13, lit_14, lit_15, lit_16, lit_17, lit_18, lit_19, lit_20, lit_21, lit_22, lit_23, lit_24, lit_25, lit_26, lit_27, lit_28, lit_29, lit_30, lit_31, lit_32, lit_33, lit_34, lit_35, lit_36, lit_40, lit_41, lit_42, lit_44, lit_48, lit_57, lit_59, lit_62, lit_63, lit_64, lit_82, lit_98, lit_99, lit_100, lit_101, lit_102, lit_103, lit_104, lit_105, lit_106, lit_107, lit_108, lit_109, lit_110, lit_111, lit_112, lit_113, lit_119, lit_120, lit_127, lit_128, lit_149, lit_150, lit_202, lit_240, lit_262, lit_894, lit_900, lit_999, lit_1000, lit_2000, lit_2662, lit_2663, lit_2695, lit_2701, lit_2702, lit_3602, lit_10806, nI_add, pk_mul, cl_nI, inb_nI, nI_leI, nI_ltI, nI_eq, nI_eq_m1, m1_eq_nI, nI_eq_m2, div_nI, rem_nI, Option.bind_some, b2_0, b2_1, isb_b2, if_true_, if_false_, ↓reduceIte, reduceCtorEq, not_true_eq_false, not_false_eq_true, bt_hasBit, ult, Nat.add_zero, false_and, true_and, and_true, and_false, Nat.reduceLeDiff, Nat.reduceEqDiff, Nat.reduceLT, Bool.toNat_true, Bool.toNat_false, decide_true, decide_false, Bool.not_true, Bool.not_false, Bool.false_and, Bool.true_and, Bool.and_true, Bool.and_false, Bool.or_false, Bool.true_or, Bool.or_true, Bool.false_or, Nat.not_le.mpr hi, hA, hab, hk, c_subtreeOf, hP, o1]
        · rw [bt_and, bt_not hs', a1 s' hs', hp s' hs']
          unfold anyX
          rw [anyN_s, hax, Bool.true_and]
          generalize anyN (fun c => absX N u s e c && cop N c s') i = a
          unfold cop
          cases decide (s' < 20) <;> cases us N s' <;> cases An N s' s <;> cases a <;> cases An N s' (sec N i) <;> rfl
        · have hne : ∀ r v, cpV r n P v 120 x = r x := fun r v => by unfold cpV; rw [if_neg (fun z => by omega)]
          rw [o2, o3, hne, hne]
          exact a4 x hx
        · have hin : ∀ r v, cpV r n P v 120 (120 * n + k) = if cop N i (k / 6) = true then v k else r (120 * n + k) := fun r v => by
            unfold cpV
            rw [show 120 * n + k - 120 * n = k by omega, hp _ (by omega), decide_eq_true (show k / 6 < 20 by omega), Bool.true_and]
            show (if 120 * n ≤ 120 * n + k ∧ 120 * n + k < 120 * n + 120 ∧ cop N i (k / 6) = true then _ else _) = _
            by_cases hcp : cop N i (k / 6) = true
            · rw [if_pos hcp, if_pos ⟨by omega, by omega, hcp⟩]
            · rw [if_neg hcp, if_neg (fun z => hcp z.2.2)]
          rw [o2, o3, hin, hin, tkD, tkD, hax, Bool.true_and]
          by_cases hcp : cop N i (k / 6) = true
          · rw [if_pos hcp, if_pos hcp, if_pos hcp, if_pos hcp]
            by_cases hin2 : i = n
            · subst hin2
              obtain ⟨d1, d2⟩ := a5 k hk2
              rw [d1, d2]
              exact ⟨tkD_own _ hN hx hn hax hcp hk2 i (Nat.le_refl _), tkD_own _ hN hx hn hax hcp hk2 i (Nat.le_refl _)⟩
            · exact a4 (120 * i + k) (by omega)
          · rw [if_neg hcp, if_neg hcp, if_neg hcp, if_neg hcp]
            exact a5 k hk2
  · obtain ⟨S, M1, rfl, a1, a2, a3, a4, a5⟩ := hσ
    show ∃ M', L_X1_startCopy_13 g (nI n) _ (m + 1) _ _ _ = _ ∧ _
    obtain ⟨M2, o1, o2, o3, o4, o5⟩ := c_copyDocument (M := M1) (g := g) (n := n) hn S
    refine ⟨M2, ?_, fun j h1 h2 => (o4 j h1 h2).trans (a2 j h1 h2), a3.tr o5, fun x hx => ?_, fun k hk hu ha => ?_⟩
    · rw [L_X1_startCopy_13]
      simp (disch := omega) only [↓ite_b2r, ↓ite_nb2r, ↓lit_m1, ↓lit_m2, lit_0, lit_1, lit_2, lit_3, lit_4, lit_5, lit_6, lit_7, lit_8, lit_9, lit_10, lit_11, lit_12, lit_13, lit_14, lit_15, lit_16, lit_17, lit_18, lit_19, lit_20, lit_21, lit_22, lit_23, lit_24, lit_25, lit_26, lit_27, lit_28, lit_29, lit_30, lit_31, lit_32, lit_33, lit_34, lit_35, lit_36, lit_40, lit_41, lit_42, lit_44, lit_48, lit_57, lit_59, lit_62, lit_63, lit_64, lit_82, lit_98, lit_99, lit_100, lit_101, lit_102, lit_103, lit_104, lit_105, lit_106, lit_107, lit_108, lit_109, lit_110, lit_111, lit_112, lit_113, lit_119, lit_120, lit_127, lit_128, lit_149, lit_150, lit_202, lit_240, lit_262, lit_894, lit_900, lit_999, lit_1000, lit_2000, lit_2662, lit_2663, lit_2695, lit_2701, lit_2702, lit_3602, lit_10806, nI_add, pk_mul, cl_nI, inb_nI, nI_leI, nI_ltI, nI_eq, nI_eq_m1, m1_eq_nI, nI_eq_m2, div_nI, rem_nI, Option.bind_some, b2_0, b2_1, isb_b2, if_true_, if_false_, ↓reduceIte, reduceCtorEq, not_true_eq_false, not_false_eq_true, bt_hasBit, ult, Nat.add_zero, false_and, true_and, and_true, and_false, Nat.reduceLeDiff, Nat.reduceEqDiff, Nat.reduceLT, Bool.toNat_true, Bool.toNat_false, decide_true, decide_false, Bool.not_true, Bool.not_false, Bool.false_and, Bool.true_and, Bool.and_true, Bool.and_false, Bool.or_false, Bool.true_or, Bool.or_true, Bool.false_or, Nat.le_refl, o1]
    · have hne : ∀ r v, cpV r n S v 120 x = r x := fun r v => by unfold cpV; rw [if_neg (fun z => by omega)]
      rw [o2, o3, hne, hne]
      exact a4 x hx
    · have hS : bt S (k / 6) = !anyX N u s e 10 (k / 6) := by
        rw [a1 _ (by omega), decide_eq_true (show k / 6 < 20 by omega), hu, ha]
        rfl
      have hin : ∀ r v, cpV r n S v 120 (120 * n + k) = if anyX N u s e 10 (k / 6) = true then r (120 * n + k) else v k := fun r v => by
        unfold cpV
        rw [show 120 * n + k - 120 * n = k by omega, hS]
        cases anyX N u s e 10 (k / 6) with
        | true => rw [if_neg (fun z => by cases z.2.2), if_pos rfl]
        | false => rw [if_pos ⟨by omega, by omega, rfl⟩, if_neg (by decide)]
      rw [o2, o3, hin, hin]
      by_cases hax : anyX N u s e 10 (k / 6) = true
      · rw [if_pos hax, if_pos hax]
        obtain ⟨d1, d2⟩ := a5 k hk
        obtain ⟨t1, t2⟩ := tkD_R (n := n) hkk hk 10 (by omega) hax
        rw [d1, d2, t1, t2]
        exact ⟨rfl, rfl⟩
      · rw [if_neg hax, if_neg hax, a2 5 (by omega) (by omega), r_lin ht hk hu]
        obtain ⟨t1, t2⟩ := tkR_lin (k := k) 10 (Bool.eq_false_iff.mpr hax)
        exact ⟨t1.symm, t2.symm⟩
  · rw [bt_sub ht _ hs', isS_nI hs, hus, cl_nI (by omega)]
    show _ = (_ && !false)
    simp
end GS
