/-! ===== lines that change, sections that come and go ===== -/
section IB
variable {N R : Row}
/-- one entry more, the line's value the newest -/
theorem nx_ent (hh : WFh R) {m : Nat} {b a u v : Int32} {k : Nat} (hm : m < 120) : ∀ d e, e + d + 1 = hn (gEnt R (m / 6) (m % 6) b a u) → nx (gEnt R (m / 6) (m % 6) b a u) k v e (d + 1) = nx R k (if m = k then b else v) (oldE R e) d := by
  intro d
  induction d with
  | zero =>
    intro e he
    have e1 : eC (gEnt R (m / 6) (m % 6) b a u) e = m := by
      unfold eC
      rw [gEnt_new hh (w := 1) (by omega) (by omega), gEnt_new hh (w := 2) (by omega) (by omega)]
      show 6 * cl (nI (m / 6)) + cl (nI (m % 6)) = m
      rw [cl_nI (by omega), cl_nI (by omega)]
      omega
    rw [nx, nx, e1]
    by_cases hk : m = k
    · rw [if_pos hk, if_pos hk, gEnt_new hh (w := 3) (by omega) (by omega)]
      rfl
    · rw [if_neg hk, if_neg hk]
      rfl
  | succ d ih =>
    intro e he
    have h1 : e + 1 < hn (gEnt R (m / 6) (m % 6) b a u) := by omega
    have e1 : eC (gEnt R (m / 6) (m % 6) b a u) e = eC R (oldE R e) := by
      unfold eC
      rw [(gEnt_old hh (w := 1) (by omega) h1).1, (gEnt_old hh (w := 2) (by omega) h1).1]
    have e2 : oldE R (e + 1) = oldE R e + 1 := by unfold oldE; split <;> omega
    rw [nx, e1, (gEnt_old hh (w := 3) (by omega) h1).1, ih (e + 1) (by omega), e2]
    conv => rhs; rw [nx]
theorem HI_cell (hh : WFh R) (hI : HI R) {m : Nat} (hm : m < 120) {u v : Int32} (hus : us R (m / 6) = true) (hne : R (82 + m) ≠ v) : HI (upd (gEnt R (m / 6) (m % 6) (R (82 + m)) v u) (82 + m) v) := by
  have hl : hn R < 151 := hh.1.2
  have hn1 := gEnt_hn hh (s := m / 6) (l := m % 6) (b := R (82 + m)) (a := v) (u := u)
  have ent := fun k w d e => nx_ent hh (m := m) (b := R (82 + m)) (a := v) (u := u) (v := w) (k := k) hm d e
  have old := fun e w hw h => gEnt_old hh (s := m / 6) (l := m % 6) (b := R (82 + m)) (a := v) (u := u) (e := e) (w := w) hw h
  have new := fun e w hw h => gEnt_new hh (s := m / 6) (l := m % 6) (b := R (82 + m)) (a := v) (u := u) (e := e) (w := w) hw h
  have lo := fun k h => gEnt_lo (N := R) (s := m / 6) (l := m % 6) (b := R (82 + m)) (a := v) (u := u) (k := k) h
  generalize gEnt R (m / 6) (m % 6) (R (82 + m)) v u = G at hn1 ent old new lo
  have hG : eqR 2701 3602 (upd G (82 + m) v) G := fun k h1 _ => upd_other (by omega)
  have hln : ∀ k, k < 120 → lin (upd G (82 + m) v) k = if k = m then v else lin R k := fun k hk => by
    unfold lin
    by_cases h : k = m
    · rw [if_pos h, h, upd_same]
    · rw [if_neg h, upd_other (by omega), lo _ (by omega)]
  have hu : ∀ s, s < 20 → us (upd G (82 + m) v) s = us R s := fun s hs => by
    unfold us
    rw [upd_other (by omega), lo _ (by omega)]
  have hg150 : hn G ≤ 150 := by rw [hn1]; split <;> omega
  intro e he
  rw [hn_cg hG] at he ⊢
  rw [eC_cg hG (by omega), hG _ (by omega) (by omega), hG _ (by omega) (by omega), nx_cg hG _ _ (by omega)]
  by_cases h1 : e + 1 < hn G
  · obtain ⟨o3, oE⟩ := old e 3 (by omega) h1
    have e1 : eC G e = eC R (oldE R e) := by
      unfold eC
      rw [(old e 1 (by omega) h1).1, (old e 2 (by omega) h1).1]
    obtain ⟨a1, a2, a3⟩ := hI (oldE R e) oE
    obtain ⟨b1, -, -⟩ := eC_lt hh oE
    rw [e1, hu _ (by omega), o3, (old e 4 (by omega) h1).1]
    refine ⟨a1, a2, ?_⟩
    rw [show hn G - (e + 1) = (hn G - (e + 1) - 1) + 1 by omega, ent _ _ _ _ (by omega), ← a3, hln _ b1]
    have e4 : (if m = eC R (oldE R e) then R (82 + m) else if eC R (oldE R e) = m then v else lin R (eC R (oldE R e))) = lin R (eC R (oldE R e)) := by
      by_cases h : m = eC R (oldE R e)
      · rw [if_pos h]
        unfold lin
        rw [← h]
      · rw [if_neg h, if_neg (fun z => h z.symm)]
    rw [e4]
    have e5 : oldE R (e + 1) = oldE R e + 1 ∧ hn G - (e + 1) - 1 = hn R - (oldE R e + 1) := by
      unfold oldE
      by_cases hf : hn R = 150
      · rw [if_pos hf] at hn1
        rw [if_pos hf, if_pos hf]
        omega
      · rw [if_neg hf] at hn1
        rw [if_neg hf, if_neg hf]
        omega
    rw [e5.1, e5.2]
  · have h2 : e + 1 = hn G := by omega
    have e1 : eC G e = m := by
      unfold eC
      rw [new e 1 (by omega) h2, new e 2 (by omega) h2]
      show 6 * cl (nI (m / 6)) + cl (nI (m % 6)) = m
      rw [cl_nI (by omega), cl_nI (by omega)]
      omega
    rw [e1, hu _ (by omega), new e 3 (by omega) h2, new e 4 (by omega) h2, show hn G - (e + 1) = 0 by omega]
    refine ⟨hus, hne, ?_⟩
    rw [nx, hln m hm, if_pos rfl]
    rfl
/-- what each changed cell keeps holds behind all of them -/
theorem bec_ind {T : Nat → Int32} {u : Int32} (hN : ∀ k, k < 120 → isV N (82 + k) 1000) (hh : WFh N) (P : Nat → Nat × Row → Prop) (h0 : P 0 (0, N)) (hc : ∀ m p, m < 120 → BI N T m p → P m p → P (m + 1) (cellS T u p m)) (hv : ∀ m p a b s, s < 20 → P m p → P m (p.1, verS a b s p.2)) : P 120 (becS T u (0, N) 20) := by
  have key : ∀ s, s ≤ 20 → P (6 * s) (becS T u (0, N) s) := by
    intro s
    induction s with
    | zero => intro _; exact h0
    | succ s ih =>
      intro hs
      have hp := ih (by omega)
      have hB := BI_bec (T := T) (u := u) hN hh s (by omega)
      rw [becS]
      generalize becS T u (0, N) s = p at hp hB
      have hl : ∀ l, l ≤ 6 → P (6 * s + l) (cellsS T u p s l) := by
        intro l
        induction l with
        | zero => intro _; exact hp
        | succ l ihl =>
          intro hl
          exact hc (6 * s + l) _ (by omega) (BI_cells hN (by omega) hB l (by omega)) (ihl (by omega))
      unfold secS
      exact hv _ (cellsS T u p s 6) _ _ _ (by omega) (hl 6 (by omega))
  exact key 20 (by omega)
theorem verS_eq {a b s lo hi : Nat} (hs : s < 20) (h : hi ≤ 62 ∨ 82 ≤ lo) : eqR lo hi (verS a b s R) R := fun k h1 h2 => verS_o (by omega)
theorem HI_bec {T : Nat → Int32} {u : Int32} (hN : WF N) (hT : ∀ k, k < 120 → us N (k / 6) = false → T k = N (82 + k)) (hI : HI N) : HI (becS T u (0, N) 20).2 := by
  refine (bec_ind (T := T) (u := u) hN.2.2.1.1 hN.2.2.2.2.2 (fun _ p => HI p.2 ∧ WFh p.2) ⟨hI, hN.2.2.2.2.2⟩ (fun m p hm hB hP => ?_) (fun m p a b s hs hP => ⟨HI_cg (fun s' hs' => us_cg (verS_eq hs (by omega)) hs') (verS_eq hs (by omega)) (verS_eq hs (by omega)) hP.2 hP.1, WFh_cg (verS_eq hs (by omega)) hP.2⟩)).1
  obtain ⟨h1, h2, h3, h4, h5, h6⟩ := hB
  refine ⟨?_, (BI_cell (T := T) (u := u) hN.2.2.1.1 ⟨h1, h2, h3, h4, h5, h6⟩ hm).2.2.2.2.1⟩
  unfold cellS
  by_cases he : p.2 (82 + m) = T m
  · rw [if_pos he]; exact hP.1
  · rw [if_neg he]
    refine HI_cell h5 hP.1 hm ?_ he
    rw [us_cg h1 (by omega)]
    cases hus : us N (m / 6) with
    | true => rfl
    | false =>
      refine absurd ?_ he
      rw [h4 m hm, if_neg (by omega)]
      exact (hT m hm hus).symm
/-- how many lines get another value -/
def chg (N : Row) (T : Nat → Int32) (k : Nat) : Bool := !decide (N (82 + k) = T k)
theorem bec_cnt {T : Nat → Int32} {u : Int32} (hN : WF N) : (becS T u (0, N) 20).1 = cntN (chg N T) 120 := by
  refine bec_ind (T := T) (u := u) hN.2.2.1.1 hN.2.2.2.2.2 (fun m p => p.1 = cntN (chg N T) m) rfl (fun m p hm hB hP => ?_) (fun m p a b s hs hP => hP)
  have h4 := hB.2.2.2.1 m hm
  rw [if_neg (by omega)] at h4
  rw [cntN_s, ← hP]
  unfold cellS chg
  by_cases he : p.2 (82 + m) = T m
  · rw [if_pos he]
    rw [h4] at he
    rw [decide_eq_true he]
    rfl
  · rw [if_neg he]
    rw [h4] at he
    rw [decide_eq_false he]
    rfl
theorem bec_hn {T : Nat → Int32} {u : Int32} (hN : WF N) : hn (becS T u (0, N) 20).2 = if 150 < hn N + (becS T u (0, N) 20).1 then 150 else hn N + (becS T u (0, N) 20).1 := by
  have hl : hn N < 151 := hN.2.2.2.2.2.1.2
  refine bec_ind (T := T) (u := u) hN.2.2.1.1 hN.2.2.2.2.2 (fun m p => hn p.2 = if 150 < hn N + p.1 then 150 else hn N + p.1) (by dsimp only; rw [if_neg (by omega)]; rfl) (fun m p hm hB hP => ?_) (fun m p a b s hs hP => by dsimp only at hP ⊢; rw [hn_cg (verS_eq hs (by omega))]; exact hP)
  unfold cellS
  by_cases he : p.2 (82 + m) = T m
  · rw [if_pos he]; exact hP
  · rw [if_neg he]
    dsimp only at hP ⊢
    have hg : eqR 2701 3602 (upd (gEnt p.2 (m / 6) (m % 6) (p.2 (82 + m)) (T m) u) (82 + m) (T m)) (gEnt p.2 (m / 6) (m % 6) (p.2 (82 + m)) (T m) u) := fun k _ _ => upd_other (by omega)
    rw [hn_cg hg, gEnt_hn hB.2.2.2.2.1, hP]
    by_cases h1 : 150 < hn N + p.1
    · rw [if_pos h1, if_pos rfl, if_pos (by omega)]
    · rw [if_neg h1]
      by_cases h2 : hn N + p.1 = 150
      · rw [if_pos h2, if_pos (by omega)]
      · rw [if_neg h2, if_neg (by omega)]
        omega
theorem mtE_cg (h : eqR 2701 3602 R N) {s l e : Nat} (he : e < 150) : mtE R s l e = mtE N s l e := by unfold mtE; rw [h _ (by omega) (by omega), h _ (by omega) (by omega)]
/-- the latest entry of a cell is not older than a new ones, and is u's -/
def Lt (R : Row) (u : Int32) (a k : Nat) : Prop := ∃ e, e < hn R ∧ hn R ≤ e + a ∧ mtE R (k / 6) (k % 6) e = true ∧ R (2702 + 6 * e + 5) = u ∧ ∀ j, e < j → j < hn R → mtE R (k / 6) (k % 6) j = false
theorem Lt_cg (h : eqR 2701 3602 R N) {u : Int32} {a k : Nat} (hh : WFh N) (hL : Lt N u a k) : Lt R u a k := by
  have hl : hn N < 151 := hh.1.2
  obtain ⟨e, a1, a2, a3, a4, a5⟩ := hL
  unfold Lt
  rw [hn_cg h]
  exact ⟨e, a1, a2, by rw [mtE_cg h (by omega)]; exact a3, by rw [h _ (by omega) (by omega)]; exact a4, fun j h1 h2 => by rw [mtE_cg h (by omega)]; exact a5 j h1 h2⟩
theorem Lt_lat {u : Int32} {a k : Nat} (h : Lt R u a k) : latU R (k / 6) (k % 6) (hn R) = u := by
  obtain ⟨e, a1, -, a3, a4, a5⟩ := h
  have key : ∀ d, e + 1 + d ≤ hn R → latU R (k / 6) (k % 6) (e + 1 + d) = u := by
    intro d
    induction d with
    | zero =>
      intro _
      rw [Nat.add_zero, latU, if_pos a3]
      exact a4
    | succ d ih =>
      intro hd
      rw [show e + 1 + (d + 1) = (e + 1 + d) + 1 by omega, latU, if_neg (by rw [a5 _ (by omega) (by omega)]; decide)]
      exact ih (by omega)
  have := key (hn R - (e + 1)) (by omega)
  rw [show e + 1 + (hn R - (e + 1)) = hn R by omega] at this
  exact this
theorem bec_lat {T : Nat → Int32} {u : Int32} (hN : WF N) {k : Nat} (hk : k < 120) (hne : N (82 + k) ≠ T k) : latU (becS T u (0, N) 20).2 (k / 6) (k % 6) (hn (becS T u (0, N) 20).2) = u := by
  refine Lt_lat (a := 120) ((bec_ind (T := T) (u := u) hN.2.2.1.1 hN.2.2.2.2.2 (fun m p => (k < m → Lt p.2 u m k) ∧ WFh p.2) ⟨fun h => absurd h (Nat.not_lt_zero _), hN.2.2.2.2.2⟩ (fun m p hm hB hP => ?_) (fun m p a b s hs hP => ⟨fun h => Lt_cg (verS_eq hs (by omega)) hP.2 (hP.1 h), WFh_cg (verS_eq hs (by omega)) hP.2⟩)).1 hk)
  refine ⟨fun hkm => ?_, (BI_cell (T := T) (u := u) hN.2.2.1.1 hB hm).2.2.2.2.1⟩
  obtain ⟨h1, h2, h3, h4, h5, h6⟩ := hB
  have h4m := h4 m hm
  rw [if_neg (by omega)] at h4m
  unfold cellS
  by_cases he : p.2 (82 + m) = T m
  · rw [if_pos he]
    by_cases hmk : k = m
    · subst hmk
      rw [h4m] at he
      exact absurd he hne
    · obtain ⟨e, a1, a2, a3, a4, a5⟩ := hP.1 (by omega)
      exact ⟨e, a1, by omega, a3, a4, a5⟩
  · rw [if_neg he]
    have hl : hn p.2 < 151 := h5.1.2
    have hW : WFh (gEnt p.2 (m / 6) (m % 6) (p.2 (82 + m)) (T m) u) := WFh_gEnt h5 (by omega) (by omega) (by rw [h4m]; exact hN.2.2.1.1 m hm)
    refine Lt_cg (N := gEnt p.2 (m / 6) (m % 6) (p.2 (82 + m)) (T m) u) (fun k _ _ => upd_other (by omega)) hW ?_
    have hn1 := gEnt_hn h5 (s := m / 6) (l := m % 6) (b := p.2 (82 + m)) (a := T m) (u := u)
    have old := fun e w hw h => gEnt_old h5 (s := m / 6) (l := m % 6) (b := p.2 (82 + m)) (a := T m) (u := u) (e := e) (w := w) hw h
    have new := fun e w hw h => gEnt_new h5 (s := m / 6) (l := m % 6) (b := p.2 (82 + m)) (a := T m) (u := u) (e := e) (w := w) hw h
    generalize gEnt p.2 (m / 6) (m % 6) (p.2 (82 + m)) (T m) u = G at hn1 old new hW
    have oldM : ∀ e s l, e + 1 < hn G → mtE G s l e = mtE p.2 s l (oldE p.2 e) := fun e s l h => by
      unfold mtE
      rw [(old e 1 (by omega) h).1, (old e 2 (by omega) h).1]
    have newM : ∀ e s l, s < 20 → l < 6 → e + 1 = hn G → mtE G s l e = (decide (m / 6 = s) && decide (m % 6 = l)) := fun e s l hs hl h => by
      unfold mtE
      rw [new e 1 (by omega) h, new e 2 (by omega) h]
      show (decide (nI (m / 6) = nI s) && decide (nI (m % 6) = nI l)) = _
      rw [decide_eq_decide.mpr (show nI (m / 6) = nI s ↔ m / 6 = s by rw [nI_eq (by omega) (by omega)]), decide_eq_decide.mpr (show nI (m % 6) = nI l ↔ m % 6 = l by rw [nI_eq (by omega) (by omega)])]
    by_cases hmk : k = m
    · subst hmk
      have hg : 0 < hn G := by rw [hn1]; split <;> omega
      refine ⟨hn G - 1, by omega, by omega, ?_, ?_, fun j h7 h8 => by omega⟩
      · rw [newM _ _ _ (by omega) (by omega) (by omega), decide_eq_true rfl, decide_eq_true rfl]
        rfl
      · rw [new _ 5 (by omega) (by omega)]
        rfl
    · obtain ⟨e, a1, a2, a3, a4, a5⟩ := hP.1 (by omega)
      have hnew : ∀ j, j + 1 = hn G → mtE G (k / 6) (k % 6) j = false := fun j hj => by
        rw [newM _ _ _ (by omega) (by omega) hj]
        by_cases c1 : m / 6 = k / 6
        · rw [decide_eq_false (show ¬ m % 6 = k % 6 by omega), Bool.and_false]
        · rw [decide_eq_false c1, Bool.false_and]
      by_cases hf : hn p.2 = 150
      · rw [if_pos hf] at hn1
        have hoe : ∀ j, oldE p.2 j = j + 1 := fun j => if_pos hf
        refine ⟨e - 1, by omega, by omega, ?_, ?_, fun j h7 h8 => ?_⟩
        · rw [oldM _ _ _ (by omega), hoe, show e - 1 + 1 = e by omega]; exact a3
        · rw [(old (e - 1) 5 (by omega) (by omega)).1, hoe, show e - 1 + 1 = e by omega]; exact a4
        · by_cases hj : j + 1 = hn G
          · exact hnew j hj
          · rw [oldM _ _ _ (by omega), hoe]
            exact a5 _ (by omega) (by omega)
      · rw [if_neg hf] at hn1
        have hoe : ∀ j, oldE p.2 j = j := fun j => if_neg hf
        refine ⟨e, by omega, by omega, ?_, ?_, fun j h7 h8 => ?_⟩
        · rw [oldM _ _ _ (by omega), hoe]; exact a3
        · rw [(old e 5 (by omega) (by omega)).1, hoe]; exact a4
        · by_cases hj : j + 1 = hn G
          · exact hnew j hj
          · rw [oldM _ _ _ (by omega), hoe]
            exact a5 _ (by omega) (by omega)
theorem bec_lin {T : Nat → Int32} {u : Int32} (hN : WF N) {k : Nat} (hk : k < 120) : lin (becS T u (0, N) 20).2 k = T k := by
  have := (BI_bec (T := T) (u := u) hN.2.2.1.1 hN.2.2.2.2.2 20 (by omega)).2.2.2.1 k hk
  rw [if_pos (by omega)] at this
  exact this
/-- lines change where no other exclusive check-out is held -/
theorem BD_bec {T : Nat → Int32} {u : Int32} (hN : WF N) (hB : BD N) (hT : ∀ c, c < 10 → hel N c = true → sh N c = false → ∀ k, k < 120 → cop N c (k / 6) = true → T k = N (82 + k)) : BD (becS T u (0, N) 20).2 := by
  obtain ⟨h1, h2, -, -, -, -⟩ := BI_bec (T := T) (u := u) hN.2.2.1.1 hN.2.2.2.2.2 20 (by omega)
  have hl := fun k hk => bec_lin (T := T) (u := u) hN (k := k) hk
  generalize (becS T u (0, N) 20).2 = R at h1 h2 hl
  have h3 : eqR 202 262 R N := h2.sub (by omega) (by omega)
  refine BD_sub hB fun c hc g1 g2 => ?_
  rw [hel_cg h3 hc] at g1
  rw [sh_cg h3 hc] at g2
  refine ⟨g1, g2, fun k hk g3 => ?_⟩
  rw [cop_cg h1 hN.1 (sec_cg h3 hc) (by omega)] at g3
  refine ⟨g3, ?_, ?_⟩
  · unfold bas
    exact h2 _ (by omega) (by omega)
  · rw [hl k hk, hT c hc g1 g2 k hk g3]
    rfl
end IB
