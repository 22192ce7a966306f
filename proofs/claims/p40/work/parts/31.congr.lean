/-! ===== rows that agree where it counts ===== -/
def eqR (a b : Nat) (R N : Row) : Prop := ∀ k, a ≤ k → k < b → R k = N k
theorem eqR.rf {a b : Nat} {N : Row} : eqR a b N N := fun _ _ _ => rfl
theorem eqR.tr {a b : Nat} {R Q N : Row} (h1 : eqR a b R Q) (h2 : eqR a b Q N) : eqR a b R N := fun k h3 h4 => (h1 k h3 h4).trans (h2 k h3 h4)
theorem eqR.sy {a b : Nat} {R N : Row} (h : eqR a b R N) : eqR a b N R := fun k h3 h4 => (h k h3 h4).symm
theorem eqR.sub {a b c d : Nat} {R N : Row} (h : eqR a b R N) (h1 : a ≤ c) (h2 : d ≤ b) : eqR c d R N := fun k h3 h4 => h k (by omega) (by omega)
theorem isV_cg {R N : Row} {k b : Nat} (h : R k = N k) : isV N k b → isV R k b := by unfold isV; rw [h]; exact id
section CG
variable {R N : Row}
theorem us_cg (h : eqR 0 62 R N) {s : Nat} (hs : s < 20) : us R s = us N s := by unfold us; rw [h _ (by omega) (by omega)]
theorem pa_cg (h : eqR 0 62 R N) {s : Nat} (hs : s < 20) : pa R s = pa N s := by unfold pa; rw [h _ (by omega) (by omega)]
theorem WFt_cg (h : eqR 0 62 R N) (hN : WFt N) : WFt R := by
  obtain ⟨h1, h2, h3, h4, ⟨r, h5⟩, h6, h7, h8⟩ := hN
  have e1 : R 1 = N 1 := h 1 (by omega) (by omega)
  refine ⟨fun s hs => ?_, ?_, ?_, fun s a b c => ?_, ⟨r, fun s a b c => ?_⟩, isV_cg e1 h6, fun s a b c => ?_, fun s s' a b c a' b' c' e => ?_⟩
  · rw [h _ (by omega) (by omega)]; exact h1 s hs
  · rw [h _ (by omega) (by omega)]; exact h2
  · rw [h _ (by omega) (by omega)]; exact h3
  · rw [us_cg h b] at c
    rw [pa_cg h b, h _ (by omega) (by omega), us_cg h (h4 s a b c).2.1]
    exact h4 s a b c
  · rw [us_cg h b] at c
    rw [pa_cg h b]
    exact h5 s a b c
  · rw [us_cg h b] at c
    rw [e1]
    exact isV_cg (h _ (by omega) (by omega)) (h7 s a b c)
  · rw [us_cg h b] at c
    rw [us_cg h b'] at c'
    rw [h _ (by omega) (by omega), h (42 + s') (by omega) (by omega)] at e
    exact h8 s s' a b c a' b' c' e
theorem An_cg (h : eqR 0 62 R N) (hN : WFt N) {s t : Nat} (hs : s < 20) (hu : us N s = true) : An R s t = An N s t := by
  have hR := WFt_cg h hN
  refine up_ind hN (fun s => An R s t = An N s t) (by rw [An_0, An_0]) (fun s h1 h2 h3 ih => ?_) s hs hu
  rw [An_s hN h1 h2 h3, An_s hR h1 h2 (by rw [us_cg h h2]; exact h3), pa_cg h h2, ih]
theorem manyS_cg (h : eqR 0 62 R N) : manyS R = manyS N := cntN_c fun k hk => us_cg h hk
theorem ck_cg (h : eqR 202 262 R N) {c : Nat} (hc : c < 10) : ck R c = ck N c := by unfold ck; rw [h _ (by omega) (by omega)]
theorem usr_cg (h : eqR 202 262 R N) {c : Nat} (hc : c < 10) : usr R c = usr N c := by unfold usr; rw [h _ (by omega) (by omega)]
theorem sec_cg (h : eqR 202 262 R N) {c : Nat} (hc : c < 10) : sec R c = sec N c := by unfold sec; rw [h _ (by omega) (by omega)]
theorem hd_cg (h : eqR 202 262 R N) {c : Nat} (hc : c < 10) : hd R c = hd N c := by unfold hd; rw [h _ (by omega) (by omega)]
theorem sh_cg (h : eqR 202 262 R N) {c : Nat} (hc : c < 10) : sh R c = sh N c := by unfold sh; rw [h _ (by omega) (by omega)]
theorem hel_cg (h : eqR 202 262 R N) {c : Nat} (hc : c < 10) : hel R c = hel N c := by unfold hel; rw [ck_cg h hc, hd_cg h hc]
theorem wq_cg (h : eqR 2662 2695 R N) : wq R = wq N := by unfold wq; rw [h _ (by omega) (by omega)]
theorem wus_cg (h : eqR 2662 2695 R N) {k : Nat} (hk : k < 8) : wus R k = wus N k := by unfold wus; rw [h _ (by omega) (by omega)]
theorem wse_cg (h : eqR 2662 2695 R N) {k : Nat} (hk : k < 8) : wse R k = wse N k := by unfold wse; rw [h _ (by omega) (by omega)]
theorem wti_cg (h : eqR 2662 2695 R N) {k : Nat} (hk : k < 8) : wti R k = wti N k := by unfold wti; rw [h _ (by omega) (by omega)]
theorem hn_cg (h : eqR 2701 3602 R N) : hn R = hn N := by unfold hn; rw [h _ (by omega) (by omega)]
theorem WFc_cg (h0 : eqR 0 62 R N) (h : eqR 202 262 R N) (hN : WFc N) : WFc R := by
  have e0 : R 0 = N 0 := h0 0 (by omega) (by omega)
  refine ⟨isV_cg e0 hN.1, fun c hc => ?_⟩
  obtain ⟨a1, a2, a3, a4, a5, a6⟩ := hN.2 c hc
  refine ⟨isV_cg (h _ (by omega) (by omega)) a1, isV_cg (h _ (by omega) (by omega)) a2, isV_cg (h _ (by omega) (by omega)) a3, isV_cg (h _ (by omega) (by omega)) a4, fun hk => ?_, fun hk => ?_⟩
  · rw [ck_cg h hc] at hk
    obtain ⟨b1, b2, b3⟩ := a5 hk
    rw [sec_cg h hc, sh_cg h hc, hd_cg h hc, us_cg h0 (s := sec N c) b1.2]
    exact ⟨isV_cg (h _ (by omega) (by omega)) b1, b2, b3⟩
  · rw [hel_cg h hc] at hk
    rw [e0, h _ (by omega) (by omega)]
    exact a6 hk
theorem WFl_cg (h : eqR 82 202 R N) (h2 : eqR 262 2662 R N) (hN : WFl N) : WFl R := ⟨fun k hk => isV_cg (h _ (by omega) (by omega)) (hN.1 k hk), fun k hk => isV_cg (h2 _ (by omega) (by omega)) (hN.2 k hk)⟩
theorem WFq_cg (h0 : eqR 0 62 R N) (h : eqR 2662 2695 R N) (hN : WFq N) : WFq R := by
  have hq8 := wq_le hN
  refine ⟨isV_cg (h _ (by omega) (by omega)) hN.1, fun k hk => ?_, fun k k' hk hk' e => ?_⟩
  · rw [wq_cg h] at hk
    obtain ⟨a1, a2, a3, a4, a5, a6⟩ := hN.2.1 k hk
    rw [wse_cg h (by omega), wti_cg h (by omega), us_cg h0 (s := wse N k) a2.2]
    exact ⟨isV_cg (h _ (by omega) (by omega)) a1, isV_cg (h _ (by omega) (by omega)) a2, a3, isV_cg (h _ (by omega) (by omega)) a4, a5, isV_cg (h _ (by omega) (by omega)) a6⟩
  · rw [wq_cg h] at hk hk'
    rw [wus_cg h (by omega), wus_cg h (by omega)] at e
    exact hN.2.2 k k' hk hk' e
theorem WFu_cg (h0 : R 0 = N 0) (h : eqR 2695 2701 R N) (hN : WFu N) : WFu R := fun u hu => by rw [h0]; exact isV_cg (h _ (by omega) (by omega)) (hN u hu)
theorem WFh_cg (h : eqR 2701 3602 R N) (hN : WFh N) : WFh R := by
  have hl : hn N < 151 := hN.1.2
  refine ⟨isV_cg (h _ (by omega) (by omega)) hN.1, fun e he => ?_⟩
  rw [hn_cg h] at he
  obtain ⟨a1, a2, a3⟩ := hN.2 e he
  exact ⟨isV_cg (h _ (by omega) (by omega)) a1, isV_cg (h _ (by omega) (by omega)) a2, isV_cg (h _ (by omega) (by omega)) a3⟩
theorem RDt_cg {D : Dk} (h0 : eqR 0 62 R N) (hv : eqR 62 82 R N) (hl : eqR 82 202 R N) (hN : WFt N) (h : RDt D N) : RDt D R := by
  obtain ⟨a1, a2, a3, a4, a5, a6⟩ := h
  refine ⟨fun s hs hu => ?_, fun s hs hu => ?_, fun s hs hu => ?_, fun s l hs hl2 hu => ?_, fun t ht s hs => ?_, fun s hs t ht => ?_⟩
  · rw [us_cg h0 hs] at hu; rw [h0 _ (by omega) (by omega)]; exact a1 s hs hu
  · rw [us_cg h0 hs] at hu; exact a2 s hs hu
  · rw [us_cg h0 hs] at hu; rw [hv _ (by omega) (by omega)]; exact a3 s hs hu
  · rw [us_cg h0 hs] at hu; rw [hl _ (by omega) (by omega)]; exact a4 s l hs hl2 hu
  · rw [a5 t ht s hs]
    by_cases h1 : s < 20
    · rw [us_cg h0 h1, us_cg h0 ht]
      cases hu : us N s with
      | false => simp
      | true => rw [An_cg h0 hN h1 hu]
    · rw [decide_eq_false h1]; simp
  · rw [a6 s hs t ht]
    by_cases h1 : t < 20
    · rw [us_cg h0 h1, us_cg h0 hs]
      cases hu : us N s with
      | false => simp
      | true => rw [An_cg h0 hN hs hu]
    · rw [decide_eq_false h1]; simp
theorem RDs_cg {D : Dk} (h0 : eqR 0 62 R N) (h : RDs D N) : RDs D R := by
  obtain ⟨a1, q, q1, q2, q3, q4⟩ := h
  refine ⟨by rw [manyS_cg h0]; exact a1, q, fun i hi => ?_, fun s hs hu => ?_, fun i j hi hj => ?_, fun i j hi hj h1 h2 => ?_⟩
  · rw [manyS_cg h0] at hi
    obtain ⟨b1, b2, b3⟩ := q1 i hi
    exact ⟨b1, b2, by rw [us_cg h0 b2]; exact b3⟩
  · rw [us_cg h0 hs] at hu
    rw [manyS_cg h0]
    exact q2 s hs hu
  · rw [manyS_cg h0] at hj
    exact q3 i j hi hj
  · rw [manyS_cg h0] at hj
    have b2 := (q1 i (by omega)).2.1
    have b2' := (q1 j hj).2.1
    rw [h0 _ (by omega) (by omega), h0 (42 + q j) (by omega) (by omega)]
    exact q4 i j hi hj h1 h2
theorem RDc_cg {D : Dk} (h : eqR 202 262 R N) (hr : RDc D N) : RDc D R := by
  refine ⟨fun c hc => ?_, fun c hc hk => ?_⟩
  · rw [hr.1 c hc]
    by_cases h1 : c < 10
    · rw [ck_cg h h1]
    · rw [decide_eq_false h1]; rfl
  · rw [ck_cg h hc] at hk
    rw [h _ (by omega) (by omega), h (202 + 6 * c + 2) (by omega) (by omega), h (202 + 6 * c + 3) (by omega) (by omega), h (202 + 6 * c + 4) (by omega) (by omega), h (202 + 6 * c + 5) (by omega) (by omega)]
    exact hr.2 c hc hk
theorem RDk_cg {D : Dk} (h0 : eqR 0 62 R N) (h : eqR 202 2662 R N) (hN : WFt N) (hr : RDk D N) : RDk D R := by
  intro c s l hc hs hl hk hu ha
  have hc2 : eqR 202 262 R N := h.sub (by omega) (by omega)
  rw [ck_cg hc2 hc] at hk
  rw [us_cg h0 hs] at hu
  rw [sec_cg hc2 hc, An_cg h0 hN hs hu] at ha
  rw [h _ (by omega) (by omega), h (262 + 240 * c + 12 * s + 2 * l + 1) (by omega) (by omega)]
  exact hr c s l hc hs hl hk hu ha
theorem RDq_cg {D : Dk} (h : eqR 2662 2695 R N) (hN : WFq N) (hr : RDq D N) : RDq D R := by
  have hq8 := wq_le hN
  refine ⟨by rw [h _ (by omega) (by omega)]; exact hr.1, fun k hk => ?_⟩
  rw [wq_cg h] at hk
  rw [h _ (by omega) (by omega), h (2663 + 4 * k + 1) (by omega) (by omega), h (2663 + 4 * k + 2) (by omega) (by omega), h (2663 + 4 * k + 3) (by omega) (by omega)]
  exact hr.2 k hk
theorem RDh_cg {D : Dk} (h : eqR 2701 3602 R N) (hN : WFh N) (hr : RDh D N) : RDh D R := by
  have hl : hn N < 151 := hN.1.2
  obtain ⟨a1, f, f1, f2, f3⟩ := hr
  refine ⟨by rw [h _ (by omega) (by omega)]; exact a1, f, f1, f2, fun e w he hw => ?_⟩
  rw [hn_cg h] at he
  rw [h _ (by omega) (by omega)]
  exact f3 e w he hw
theorem RDu_cg {D : Dk} (h0 : R 0 = N 0) (h : eqR 2695 2701 R N) (hr : RDu D N) : RDu D R := ⟨by rw [h0]; exact hr.1, fun u hu => by rw [h _ (by omega) (by omega)]; exact hr.2 u hu⟩
end CG
section DG
variable {D D' : Dk} {N : Row}
theorem RDt_D (h2 : D' 2 = D 2) (h4 : D' 4 = D 4) (h5 : D' 5 = D 5) (h6 : D' 6 = D 6) (h7 : D' 7 = D 7) (h : RDt D N) : RDt D' N := by unfold RDt at *; rw [h2, h4, h5, h6, h7]; exact h
theorem RDs_D (h1 : D' 1 = D 1) (h3 : D' 3 = D 3) (h : RDs D N) : RDs D' N := by unfold RDs at *; rw [h1, h3]; exact h
theorem RDc_D (h8 : D' 8 = D 8) (h9 : D' 9 = D 9) (h : RDc D N) : RDc D' N := by unfold RDc at *; rw [h8, h9]; exact h
theorem RDk_D (h10 : D' 10 = D 10) (h11 : D' 11 = D 11) (h : RDk D N) : RDk D' N := by unfold RDk at *; rw [h10, h11]; exact h
theorem RDq_D (h12 : D' 12 = D 12) (h13 : D' 13 = D 13) (h : RDq D N) : RDq D' N := by unfold RDq at *; rw [h12, h13]; exact h
theorem RDh_D (h14 : D' 14 = D 14) (h15 : D' 15 = D 15) (h : RDh D N) : RDh D' N := by unfold RDh at *; rw [h14, h15]; exact h
theorem RDu_D (h0 : D' 0 = D 0) (h16 : D' 16 = D 16) (h : RDu D N) : RDu D' N := by unfold RDu at *; rw [h0, h16]; exact h
end DG
