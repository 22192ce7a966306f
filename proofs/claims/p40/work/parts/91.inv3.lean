/-! ===== the invariants behind each call ===== -/
section IC
variable {N R : Row}
theorem HI_cg2 (hh : eqR 2701 3602 R N) (hW : WFh N) (hu : ∀ s, s < 20 → us N s = true → us R s = true) (hl : ∀ k, k < 120 → us N (k / 6) = true → lin R k = lin N k) (hI : HI N) : HI R := fun e he => by
  have hl1 : hn N < 151 := hW.1.2
  rw [hn_cg hh] at he ⊢
  obtain ⟨a1, a2, a3⟩ := hI e he
  obtain ⟨k1, -, -⟩ := eC_lt hW he
  rw [eC_cg hh (by omega), hh _ (by omega) (by omega), hh _ (by omega) (by omega), nx_cg hh _ _ (by omega), hl _ k1 a1]
  exact ⟨hu _ (by omega) a1, a2, a3⟩
theorem Cov_c {p c : Nat} (h : Cov N p = false) (hc : c < 10) (hk : ck N c = true) : An N p (sec N c) = false := by
  unfold Cov at h
  rw [Bool.or_eq_false_iff] at h
  have := anyN_f.mp h.1 c hc
  rw [hk, Bool.true_and] at this
  exact this
theorem Inv_add {p s : Nat} (hN : WFa N) (hs : s < 20) (hf : us N s = false) (hp : p < 20) (hup : us N p = true) (hcv : Cov N p = false) (hb : cl (N 1) + 1 < 1073741824) (hI : Inv N) : Inv (addS N p s) := by
  have hR := WFt_add hN.1.1 hs hf hp hup hb
  have hi : eqR 202 3602 (addS N p s) N := addS_hi hs
  have h3 : eqR 202 262 (addS N p s) N := hi.sub (by omega) (by omega)
  have hs0 : s ≠ 0 := fun z => by rw [z, us_0 hN.1.1] at hf; cases hf
  have hlin : ∀ k, k < 120 → k / 6 ≠ s → lin (addS N p s) k = lin N k := fun k hk hne => by
    unfold lin
    exact addS_o (by omega) (by omega) (by omega) (by omega) (by omega) (by omega)
  refine ⟨BD_sub hI.1 fun c hc h1 h2 => ?_, HI_cg2 (hi.sub (by omega) (by omega)) hN.1.2.2.2.2.2 (fun t ht hu => by rw [addS_us hs ht, hu]; rfl) (fun k hk hu => hlin k hk fun z => by rw [z, hf] at hu; cases hu) hI.2⟩
  rw [hel_cg h3 hc] at h1
  rw [sh_cg h3 hc] at h2
  have hck := hel_ck h1
  have hsl := sec_lt hN.1.2.1 hc hck
  have hsu := sec_us hN.1.2.1 hc hck
  refine ⟨h1, h2, fun k hk g => ?_⟩
  unfold cop at g
  rw [Bool.and_eq_true, sec_cg h3 hc] at g
  have hks : k / 6 ≠ s := fun z => by
    have g2 := g.2
    rw [z, An_s hR (by omega) hs (by rw [addS_us hs hs, decide_eq_true rfl, Bool.or_true]), show pa (addS N p s) s = p from by unfold pa; rw [addS_p hs, cl_nI (by omega)], An_add hN.1.1 hR hs hf hp hup, Cov_c hcv hc hck, Bool.or_false, beq_iff_eq] at g2
    rw [← g2, hf] at hsu
    cases hsu
  have hu : us N (k / 6) = true := by
    have g1 := g.1
    rw [addS_us hs (by omega), decide_eq_false hks, Bool.or_false] at g1
    exact g1
  refine ⟨?_, ?_, hlin k hk hks⟩
  · unfold cop
    rw [hu, ← An_add hN.1.1 hR hs hf (by omega) hu, g.2]
    rfl
  · unfold bas
    exact hi _ (by omega) (by omega)
theorem Inv_mov {p s : Nat} (hN : WFa N) (hs0 : s ≠ 0) (hs : s < 20) (hus : us N s = true) (hp : p < 20) (hup : us N p = true) (hna : An N p s = false) (hto : Tou N s = false) (hcv : Cov N p = false) (hb : cl (N 1) + 1 < 1073741824) (hI : Inv N) : Inv (movS N s p) := by
  have hR := WFt_mov hN.1.1 hs0 hs hus hp hup hna hb
  have ho : ∀ k, 62 ≤ k → movS N s p k = N k := fun k hk => movS_o (by omega) (by omega) (by omega)
  have h3 : eqR 202 262 (movS N s p) N := fun k h _ => ho k (by omega)
  refine ⟨BD_sub hI.1 fun c hc h1 h2 => ?_, HI_cg2 (fun k h _ => ho k (by omega)) hN.1.2.2.2.2.2 (fun t ht hu => by rw [movS_us hs ht]; exact hu) (fun k hk hu => ho _ (by omega)) hI.2⟩
  rw [hel_cg h3 hc] at h1
  rw [sh_cg h3 hc] at h2
  obtain ⟨b1, b2'⟩ := mov_free hN hto hcv hc (hel_ck h1)
  refine ⟨h1, h2, fun k hk g => ⟨?_, ho _ (by omega), ho _ (by omega)⟩⟩
  unfold cop at g ⊢
  rw [Bool.and_eq_true, sec_cg h3 hc, movS_us hs (by omega)] at g
  rw [g.1, ← An_mov hN.1.1 hR hs0 hs hus hp hup hna b1 b2' (by omega) g.1, g.2]
  rfl
theorem rem_ent (hh : WFh N) {s e w : Nat} (he : e < hn N) (hk : fkp N s e = true) (hw : w < 6) : remS N s (2702 + 6 * cntN (fkp N s) e + w) = N (2702 + 6 * e + w) := by
  rw [remS_e (by omega)]
  exact filR_at (hn N) e w he hk hw
theorem nx_rem (hh : WFh N) {s k : Nat} {v : Int32} (hk : gN N s (k / 6) = false) : ∀ d e, e + d = hn N → nx (remS N s) k v (cntN (fkp N s) e) (cntN (fkp N s) (hn N) - cntN (fkp N s) e) = nx N k v e d := by
  intro d
  induction d with
  | zero =>
    intro e he
    have : e = hn N := by omega
    subst this
    rw [Nat.sub_self]
    rfl
  | succ d ih =>
    intro e he
    have h1 := ih (e + 1) (by omega)
    have hm : cntN (fkp N s) (e + 1) ≤ cntN (fkp N s) (hn N) := cnt_mon (by omega)
    rw [cntN_s] at h1 hm
    cases hf : fkp N s e with
    | true =>
      rw [hf] at h1 hm
      have h1 : nx (remS N s) k v (cntN (fkp N s) e + 1) (cntN (fkp N s) (hn N) - (cntN (fkp N s) e + 1)) = nx N k v (e + 1) d := h1
      have hm : cntN (fkp N s) e + 1 ≤ cntN (fkp N s) (hn N) := hm
      have e1 : eC (remS N s) (cntN (fkp N s) e) = eC N e := by
        unfold eC
        rw [rem_ent hh (by omega) hf (by omega), rem_ent hh (by omega) hf (by omega)]
      rw [show cntN (fkp N s) (hn N) - cntN (fkp N s) e = (cntN (fkp N s) (hn N) - (cntN (fkp N s) e + 1)) + 1 by omega, nx, nx, e1, h1, rem_ent hh (by omega) hf (by omega)]
    | false =>
      rw [hf] at h1
      have h1 : nx (remS N s) k v (cntN (fkp N s) e) (cntN (fkp N s) (hn N) - cntN (fkp N s) e) = nx N k v (e + 1) d := h1
      have hne : eC N e ≠ k := fun z => by
        obtain ⟨-, c2, -⟩ := eC_lt hh (show e < hn N by omega)
        unfold fkp at hf
        rw [← c2, z, hk] at hf
        cases hf
      rw [nx, if_neg hne, h1]
theorem HI_rem {s : Nat} (hN : WFa N) (hI : HI N) : HI (remS N s) := by
  have hh := hN.1.2.2.2.2.2
  obtain ⟨-, hn1⟩ := remS_hn (s := s) hh
  intro e he
  rw [hn1] at he ⊢
  obtain ⟨e', h1, h2, h3⟩ := cnt_at he
  obtain ⟨a1, a2, a3⟩ := hI e' h1
  obtain ⟨c1, c2, -⟩ := eC_lt hh h1
  have e1 : eC (remS N s) e = eC N e' := by
    unfold eC
    rw [← h3, rem_ent hh h1 h2 (by omega), rem_ent hh h1 h2 (by omega)]
  have hg : gN N s (eC N e' / 6) = false := by
    have := h2
    unfold fkp at this
    rw [Bool.not_eq_true', ← c2] at this
    exact this
  have hl : lin (remS N s) (eC N e') = lin N (eC N e') := remS_lo (by omega) (by omega)
  have hnx := nx_rem hh (s := s) (v := lin N (eC N e')) hg (hn N - (e' + 1)) (e' + 1) (by omega)
  rw [cntN_s, h2, show cntN (fkp N s) e' + true.toNat = e + 1 from by rw [h3]; rfl, a3] at hnx
  rw [e1, hl, hnx]
  refine ⟨?_, ?_, ?_⟩
  · rw [remS_us hN.1.1 (by omega), a1, hg]
    rfl
  · rw [← h3, rem_ent hh h1 h2 (w := 3) (by omega), rem_ent hh h1 h2 (w := 4) (by omega)]
    exact a2
  · rw [← h3, rem_ent hh h1 h2 (w := 4) (by omega)]
theorem Inv_rem {s : Nat} (hN : WFa N) (hs0 : s ≠ 0) (hI : Inv N) : Inv (remS N s) := by
  have ho : ∀ k, 22 ≤ k → k < 2701 → remS N s k = N k := fun k h1 h2 => remS_lo (by omega) h2
  have h3 : eqR 202 262 (remS N s) N := fun k h _ => ho k (by omega) (by omega)
  refine ⟨BD_sub hI.1 fun c hc h1 h2 => ?_, HI_rem hN hI.2⟩
  rw [hel_cg h3 hc] at h1
  rw [sh_cg h3 hc] at h2
  refine ⟨h1, h2, fun k hk g => ⟨?_, ho _ (by omega) (by omega), ho _ (by omega) (by omega)⟩⟩
  unfold cop at g ⊢
  rw [Bool.and_eq_true, sec_cg h3 hc, remS_us hN.1.1 (by omega), Bool.and_eq_true, Bool.not_eq_true'] at g
  have ha : An N (k / 6) s = false := by
    have := g.1.2
    rw [gN_us g.1.1] at this
    exact this
  rw [g.1.1, ← An_rem hN.1.1 hs0 (by omega) g.1.1 ha, g.2]
  rfl
theorem Inv_bec {T : Nat → Int32} {u : Int32} (hN : WF N) (hT0 : ∀ k, k < 120 → us N (k / 6) = false → T k = N (82 + k)) (hT : ∀ c, c < 10 → hel N c = true → sh N c = false → ∀ k, k < 120 → cop N c (k / 6) = true → T k = N (82 + k)) (hI : Inv N) : Inv (becS T u (0, N) 20).2 :=
  ⟨BD_bec hN hI.1 hT, HI_bec hN hT0 hI.2⟩
theorem Inv_wri {s l : Nat} {v : Int32} (hN : WFa N) (hs : s < 20) (hus : us N s = true) (hl : l < 6) (hH : Hup N s = false) (hI : Inv N) : Inv (wriS N (6 * s + l) v) := by
  have hne : ∀ k, k ≠ 6 * s + l → wrK N (6 * s + l) v k = N (82 + k) := fun k h => by unfold wrK; rw [if_neg h]; rfl
  refine Inv_bec hN.1 (fun k hk hu => hne k fun z => ?_) (fun c hc h1 h2 k hk g => hne k fun z => ?_) hI
  · rw [z, cell_div hl, hus] at hu
    cases hu
  · rw [z, cell_div hl] at g
    unfold cop at g
    rw [Bool.and_eq_true] at g
    have := anyN_f.mp (show anyN (fun c => hel N c && An N s (sec N c)) 10 = false from hH) c hc
    rw [h1, g.2] at this
    cases this
theorem Hel_no {s t c : Nat} (hN : WFa N) (hH : Hel N s = false) (hc : c < 10) (h1 : hel N c = true) (ht : t < 20) (hu : us N t = true) (ha : An N t s = true) (hb : An N t (sec N c) = true) : False := by
  have ho := An_cmp hN.1.1 t ht hu ha hb
  have := anyN_f.mp (show anyN (fun c => hel N c && Ov N s (sec N c)) 10 = false from hH) c hc
  rw [h1, ho] at this
  cases this
theorem Inv_rev {s : Nat} {x : Int32} (hN : WFa N) (hH : Hel N s = false) (hI : Inv N) : Inv (revS N s x).2 := by
  refine Inv_bec hN.1 (fun k hk hu => ?_) (fun c hc h1 h2 k hk g => ?_) hI
  · unfold revT gN
    rw [hu, Bool.false_and, if_neg (by decide)]
  · unfold revT
    unfold cop at g
    rw [Bool.and_eq_true] at g
    by_cases hg : gN N s (k / 6) = true
    · unfold gN at hg
      rw [Bool.and_eq_true] at hg
      exact (Hel_no hN hH hc h1 (by omega) hg.1 hg.2 g.2).elim
    · rw [if_neg hg]
theorem Inv_giv {c p : Nat} (hN : WFa N) (hc : c < 10) (hk : ck N c = true) (hm : may N c p = true) (hI : Inv N) : Inv (givR N c p) := by
  have hb := WFa_bec (u := N (202 + 6 * c + 1)) hN (fun k hk2 => mgK_v (p := p) hN.1.2.2.1 hc hk2)
  have hHI : HI (becS (mgK N c p) (N (202 + 6 * c + 1)) (0, N) 20).2 := HI_bec hN.1 (fun k _ hu => by
    unfold mgK cop
    rw [hu, if_neg (fun z => by have := z.1; rw [Bool.false_and] at this; cases this)]
    rfl) hI.2
  obtain ⟨h1, h2, -, -, -, -⟩ := BI_bec (T := mgK N c p) (u := N (202 + 6 * c + 1)) hN.1.2.2.1.1 hN.1.2.2.2.2.2 20 (by omega)
  have hl := fun k hk => bec_lin (T := mgK N c p) (u := N (202 + 6 * c + 1)) hN.1 (k := k) hk
  unfold givR givB
  generalize (becS (mgK N c p) (N (202 + 6 * c + 1)) (0, N) 20).2 = R at hb hHI h1 h2 hl
  have h3 : eqR 202 262 R N := h2.sub (by omega) (by omega)
  refine Inv_srv (WFa_close hb hc) ⟨BD_sub hI.1 fun c' hc' g1 g2 => ?_, HI_cg (fun s hs => us_cg ((setC_lo _).sub (by omega) (by omega)) hs) ((setC_lo _).sub (by omega) (by omega)) ((setC_hi hc (by omega) _).sub (by omega) (by omega)) hb.1.2.2.2.2.2 hHI⟩
  rw [closeS_hel, Bool.and_eq_true, Bool.not_eq_true', decide_eq_false_iff_not, hel_cg h3 hc'] at g1
  rw [closeS_sh, sh_cg h3 hc'] at g2
  refine ⟨g1.1, g2, fun k hk2 g3 => ?_⟩
  have hlo : eqR 0 62 (closeS R c) R := (setC_lo _).sub (by omega) (by omega)
  rw [cop_cg hlo hb.1.1 closeS_sec (by omega), cop_cg h1 hN.1.1 (sec_cg h3 hc') (by omega)] at g3
  refine ⟨g3, ?_, ?_⟩
  · unfold bas
    rw [show closeS R c (262 + 240 * c' + 12 * (k / 6) + 2 * (k % 6)) = R (262 + 240 * c' + 12 * (k / 6) + 2 * (k % 6)) from setC_hi hc (by omega) _ _ (by omega) (by omega)]
    exact h2 _ (by omega) (by omega)
  · rw [show lin (closeS R c) k = lin R k from setC_lo _ _ (by omega) (by omega), hl k hk2]
    unfold mgK
    rw [if_neg]
    intro z
    have z1 := z.1
    unfold cop at z1 g3
    rw [Bool.and_eq_true] at z1 g3
    cases hd1 : hd N c with
    | true =>
      have hel1 : hel N c = true := by unfold hel; rw [hk, hd1]; rfl
      have ho := An_cmp hN.1.1 (k / 6) (by omega) z1.1 z1.2 g3.2
      have := (hN.2 c c' hc hc' (fun e => g1.2 e.symm) hel1 g1.1 ho).2
      rw [g2] at this
      cases this
    | false =>
      unfold may at hm
      rw [hd1, Bool.false_or, Bool.and_eq_true, Bool.not_eq_true'] at hm
      exact Hel_no hN hm.1 hc' g1.1 (by omega) z1.1 z1.2 g3.2
theorem Inv_brk {c : Nat} (hN : WFa N) (hc : c < 10) (hI : Inv N) : Inv (brkS N c) := Inv_srv (WFa_lose hN hc) (Inv_lose hN.1 hc hI)
theorem Inv_canc {j : Nat} (hN : WFa N) (hj : j < wq N) (hI : Inv N) : Inv (cancS N j) := Inv_srv (WFa_leave hN hj) (Inv_leave hN.1 hj hI)
end IC
