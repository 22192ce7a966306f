/-! ===== the line: leaving, joining ===== -/
theorem WF_q {R N : Row} (h0 : eqR 0 2662 R N) (h1 : eqR 2695 3602 R N) (hq : WFq R) (hN : WF N) : WF R :=
  ⟨WFt_cg (h0.sub (by omega) (by omega)) hN.1, WFc_cg (h0.sub (by omega) (by omega)) (h0.sub (by omega) (by omega)) hN.2.1, WFl_cg (h0.sub (by omega) (by omega)) (h0.sub (by omega) (by omega)) hN.2.2.1, hq, WFu_cg (h0 0 (by omega) (by omega)) (h1.sub (by omega) (by omega)) hN.2.2.2.2.1, WFh_cg (h1.sub (by omega) (by omega)) hN.2.2.2.2.2⟩
theorem WFx_c {R N : Row} (h0 : eqR 0 62 R N) (h1 : eqR 202 262 R N) (hN : WFt N) (hc : WFc N) (hx : WFx N) : WFx R :=
  WFx_sub h0 hN hc (fun c hc' h => ⟨by rw [hel_cg h1 hc'] at h; exact h, sec_cg h1 hc', sh_cg h1 hc'⟩) hx
theorem RD_q {D D' : Dk} {R N : Row} (h0 : eqR 0 2662 R N) (h1 : eqR 2695 3602 R N) (hN : WF N) (hD : ∀ j, j ≠ 12 → j ≠ 13 → D' j = D j) (hq : RDq D' R) (h : RD D N) : RD D' R := by
  obtain ⟨a1, a2, a3, a4, a5, a6, a7⟩ := h
  have h00 : eqR 0 62 R N := h0.sub (by omega) (by omega)
  exact ⟨RDt_D (hD 2 (by omega) (by omega)) (hD 4 (by omega) (by omega)) (hD 5 (by omega) (by omega)) (hD 6 (by omega) (by omega)) (hD 7 (by omega) (by omega)) (RDt_cg h00 (h0.sub (by omega) (by omega)) (h0.sub (by omega) (by omega)) hN.1 a1),
    RDs_D (hD 1 (by omega) (by omega)) (hD 3 (by omega) (by omega)) (RDs_cg h00 a2), RDc_D (hD 8 (by omega) (by omega)) (hD 9 (by omega) (by omega)) (RDc_cg (h0.sub (by omega) (by omega)) a3),
    RDk_D (hD 10 (by omega) (by omega)) (hD 11 (by omega) (by omega)) (RDk_cg h00 (h0.sub (by omega) (by omega)) hN.1 a4), hq,
    RDh_D (hD 14 (by omega) (by omega)) (hD 15 (by omega) (by omega)) (RDh_cg (h1.sub (by omega) (by omega)) hN.2.2.2.2.2 a6),
    RDu_D (hD 0 (by omega) (by omega)) (hD 16 (by omega) (by omega)) (RDu_cg (h0 0 (by omega) (by omega)) (h1.sub (by omega) (by omega)) a7)⟩
def sk (k k' : Nat) : Nat := if k' < k then k' else k' + 1
theorem leaveS_lo {N : Row} {k : Nat} : eqR 0 2662 (leaveS N k) N := fun i _ h => by unfold leaveS; rw [shF_lt (by omega), upd_other (by omega)]
theorem leaveS_hi {N : Row} (hq : WFq N) {k : Nat} (hk : k < wq N) : eqR 2695 3602 (leaveS N k) N := fun i h _ => by
  have hq8 := wq_le hq
  unfold leaveS
  rw [shF_ge (by omega), upd_other (by omega)]
theorem leaveS_n {N : Row} {k : Nat} : leaveS N k 2662 = nI (wq N - 1) := by unfold leaveS; rw [shF_lt (by omega), upd_same]
theorem leaveS_wq {N : Row} (hq : WFq N) {k : Nat} : wq (leaveS N k) = wq N - 1 := by
  have hq8 := wq_le hq
  show cl (leaveS N k 2662) = _
  rw [leaveS_n, cl_nI (by omega)]
theorem leaveS_at {N : Row} {k k' w : Nat} (hw : w < 4) (hk : k' < wq N - 1) : leaveS N k (2663 + 4 * k' + w) = N (2663 + 4 * sk k k' + w) := by
  unfold leaveS sk
  by_cases h : k' < k
  · rw [shF_lt (by omega), upd_other (by omega), if_pos h]
  · rw [shF_in (by omega) (by omega), upd_other (by omega), if_neg h]
    congr 1
    omega
theorem sk_lt {k k' w : Nat} (hk : k' < w - 1) : sk k k' < w := by unfold sk; split <;> omega
theorem sk_inj {k a b : Nat} (h : sk k a = sk k b) : a = b := by unfold sk at h; split at h <;> split at h <;> omega
theorem WFq_leave {N : Row} (hN : WFq N) {k : Nat} (hk : k < wq N) (ht : ∀ s, s < 20 → us (leaveS N k) s = us N s) : WFq (leaveS N k) := by
  have hq8 := wq_le hN
  have hw := leaveS_wq hN (k := k)
  refine ⟨?_, fun k' hk' => ?_, fun a b ha hb e => ?_⟩
  · unfold isV
    rw [leaveS_n, cl_nI (by omega)]
    exact ⟨rfl, by omega⟩
  · rw [hw] at hk'
    obtain ⟨a1, a2, a3, a4, a5, a6⟩ := hN.2.1 (sk k k') (sk_lt hk')
    have e0 := leaveS_at (N := N) (k := k) (w := 0) (by omega) hk'
    have e1 := leaveS_at (N := N) (k := k) (w := 1) (by omega) hk'
    have e2 := leaveS_at (N := N) (k := k) (w := 2) (by omega) hk'
    have e3 := leaveS_at (N := N) (k := k) (w := 3) (by omega) hk'
    have f1 : wse (leaveS N k) k' = wse N (sk k k') := by unfold wse; rw [e1]
    have f2 : wti (leaveS N k) k' = wti N (sk k k') := by unfold wti; rw [e2]
    rw [f1, f2, ht (wse N (sk k k')) a2.2]
    rw [Nat.add_zero, Nat.add_zero] at e0
    unfold isV at *
    rw [e0, e1, e2, e3]
    exact ⟨a1, a2, a3, a4, a5, a6⟩
  · rw [hw] at ha hb
    have f : ∀ k', k' < wq N - 1 → wus (leaveS N k) k' = wus N (sk k k') := fun k' h => by
      have e0 := leaveS_at (N := N) (k := k) (w := 0) (by omega) h
      unfold wus
      rw [Nat.add_zero] at e0
      rw [e0, Nat.add_zero]
    rw [f a ha, f b hb] at e
    exact sk_inj (hN.2.2 _ _ (sk_lt ha) (sk_lt hb) e)
theorem WF_leave {N : Row} (hN : WF N) {k : Nat} (hk : k < wq N) : WF (leaveS N k) :=
  WF_q leaveS_lo (leaveS_hi hN.2.2.2.1 hk) (WFq_leave hN.2.2.2.1 hk (fun _ hs => us_cg (leaveS_lo.sub (by omega) (by omega)) hs)) hN
theorem WFx_leave {N : Row} (hN : WF N) (hx : WFx N) (k : Nat) : WFx (leaveS N k) := WFx_c (leaveS_lo.sub (by omega) (by omega)) (leaveS_lo.sub (by omega) (by omega)) hN.1 hN.2.1 hx
theorem c_leaveR {M : Mem} {g : Nat} {N : Row} (hN : WF N) (h : RD (M.1 g) N) {k : Nat} (hk : k < wq N) : ∃ M', f_X5_leave g (nI k) M = some M' ∧ RD (M'.1 g) (leaveS N k) ∧ Fr g M M' := by
  have hq := hN.2.2.2.1
  have hq8 := wq_le hq
  have hrq := h.2.2.2.2.1
  refine ⟨_, c_leave (hrq.1.trans (wq_eq hq)) hq8 hk, RD_q leaveS_lo (leaveS_hi hq hk) hN (fun j h1 h2 => ?_) ⟨?_, fun k' hk' => ?_⟩ h, (Fr_wrs _ _ _ _).tr (Fr_wr _ _ _ _ _)⟩
  · rw [wr_other _ _ _ _ _ (by omega), wrs_other _ _ _ _ (by omega)]
  · rw [wr_same, upd_same, leaveS_n]
  · rw [leaveS_wq hq] at hk'
    have hs := sk_lt (k := k) hk'
    obtain ⟨b0, b1, b2, b3⟩ := hrq.2 (sk k k') hs
    have key : ∀ w, w < 4 → M.1 g 13 (4 * sk k k' + w) = N (2663 + 4 * sk k k' + w) → (wr (wrs M g 13 (shF (M.1 g 13) (4 * k) (4 * (wq N - 1)))) g 12 1 (nI (wq N - 1))).1 g 13 (4 * k' + w) = leaveS N k (2663 + 4 * k' + w) := by
      intro w hw e
      rw [wr_other _ _ _ _ _ (by omega), wrs_same, leaveS_at hw hk', ← e]
      unfold sk
      by_cases h2 : k' < k
      · rw [shF_lt (by omega), if_pos h2]
      · rw [shF_in (by omega) (by omega), if_neg h2, show 4 * k' + w + 4 = 4 * (k' + 1) + w by omega]
    exact ⟨key 0 (by omega) b0, key 1 (by omega) b1, key 2 (by omega) b2, key 3 (by omega) b3⟩
def joinS (N : Row) (u s t : Nat) (e : Bool) : Row := upd (upd (upd (upd (upd N (2663 + 4 * wq N) (nI u)) (2663 + 4 * wq N + 1) (nI s)) (2663 + 4 * wq N + 2) (nI t)) (2663 + 4 * wq N + 3) (b2 e)) 2662 (nI (wq N + 1))
section JO
variable {N : Row} {u s t : Nat} {e : Bool}
theorem joinS_lo : eqR 0 2662 (joinS N u s t e) N := fun i _ h => by unfold joinS; rw [upd_other (by omega), upd_other (by omega), upd_other (by omega), upd_other (by omega), upd_other (by omega)]
theorem joinS_hi (hw : wq N < 8) : eqR 2695 3602 (joinS N u s t e) N := fun i h _ => by unfold joinS; rw [upd_other (by omega), upd_other (by omega), upd_other (by omega), upd_other (by omega), upd_other (by omega)]
theorem joinS_n : joinS N u s t e 2662 = nI (wq N + 1) := upd_same
theorem joinS_wq (hw : wq N < 8) : wq (joinS N u s t e) = wq N + 1 := by
  show cl (joinS N u s t e 2662) = _
  rw [joinS_n, cl_nI (by omega)]
theorem joinS_old {k w : Nat} (hk : k < wq N) (hw : w < 4) : joinS N u s t e (2663 + 4 * k + w) = N (2663 + 4 * k + w) := by unfold joinS; rw [upd_other (by omega), upd_other (by omega), upd_other (by omega), upd_other (by omega), upd_other (by omega)]
theorem joinS_0 : joinS N u s t e (2663 + 4 * wq N) = nI u := by unfold joinS; rw [upd_other (by omega), upd_other (by omega), upd_other (by omega), upd_other (by omega), upd_same]
theorem joinS_1 : joinS N u s t e (2663 + 4 * wq N + 1) = nI s := by unfold joinS; rw [upd_other (by omega), upd_other (by omega), upd_other (by omega), upd_same]
theorem joinS_2 : joinS N u s t e (2663 + 4 * wq N + 2) = nI t := by unfold joinS; rw [upd_other (by omega), upd_other (by omega), upd_same]
theorem joinS_3 : joinS N u s t e (2663 + 4 * wq N + 3) = b2 e := by unfold joinS; rw [upd_other (by omega), upd_same]
theorem WF_join (hN : WF N) (hw : wq N < 8) (hu : u < 6) (hs : s < 20) (hus : us N s = true) (ht : t ≤ 1000) (ht0 : 0 < t) (hnew : ∀ k, k < wq N → wus N k ≠ u) : WF (joinS N u s t e) := by
  have hq := hN.2.2.2.1
  have e0 := joinS_0 (N := N) (u := u) (s := s) (t := t) (e := e)
  have e1 := joinS_1 (N := N) (u := u) (s := s) (t := t) (e := e)
  have e2 := joinS_2 (N := N) (u := u) (s := s) (t := t) (e := e)
  have e3 := joinS_3 (N := N) (u := u) (s := s) (t := t) (e := e)
  have hus2 : ∀ s', s' < 20 → us (joinS N u s t e) s' = us N s' := fun s' h => us_cg (joinS_lo.sub (by omega) (by omega)) h
  have fu : wus (joinS N u s t e) (wq N) = u := by unfold wus; rw [e0, cl_nI (by omega)]
  have fo : ∀ k, k < wq N → wus (joinS N u s t e) k = wus N k := fun k hk => by unfold wus; rw [show 2663 + 4 * k = 2663 + 4 * k + 0 from rfl, joinS_old hk (by omega)]
  refine WF_q joinS_lo (joinS_hi hw) ⟨?_, fun k hk => ?_, fun a b ha hb e => ?_⟩ hN
  · unfold isV
    rw [joinS_n, cl_nI (by omega)]
    exact ⟨rfl, by omega⟩
  · rw [joinS_wq hw] at hk
    by_cases h : k = wq N
    · subst h
      unfold isV wse wti
      rw [e0, e1, e2, e3]
      unfold b2
      rw [cl_nI (by omega), cl_nI (by omega), cl_nI (by omega), cl_nI (by cases e <;> simp), hus2 s hs]
      refine ⟨⟨rfl, hu⟩, ⟨rfl, hs⟩, hus, ⟨rfl, by omega⟩, ht0, rfl, ?_⟩
      cases e <;> simp
    · have hk2 : k < wq N := by omega
      obtain ⟨a1, a2, a3, a4, a5, a6⟩ := hq.2.1 k hk2
      have f1 : wse (joinS N u s t e) k = wse N k := by unfold wse; rw [joinS_old hk2 (by omega)]
      have f2 : wti (joinS N u s t e) k = wti N k := by unfold wti; rw [joinS_old hk2 (by omega)]
      rw [f1, f2, hus2 (wse N k) a2.2]
      exact ⟨isV_cg (joinS_old (w := 0) hk2 (by omega)) a1, isV_cg (joinS_old hk2 (by omega)) a2, a3, isV_cg (joinS_old hk2 (by omega)) a4, a5, isV_cg (joinS_old hk2 (by omega)) a6⟩
  · rw [joinS_wq hw] at ha hb
    by_cases h1 : a = wq N
    · by_cases h2 : b = wq N
      · omega
      · subst h1
        rw [fu, fo b (by omega)] at e
        exact absurd e.symm (hnew b (by omega))
    · by_cases h2 : b = wq N
      · subst h2
        rw [fu, fo a (by omega)] at e
        exact absurd e (hnew a (by omega))
      · rw [fo a (by omega), fo b (by omega)] at e
        exact hq.2.2 a b (by omega) (by omega) e
theorem WFx_join (hN : WF N) (hx : WFx N) : WFx (joinS N u s t e) := WFx_c (joinS_lo.sub (by omega) (by omega)) (joinS_lo.sub (by omega) (by omega)) hN.1 hN.2.1 hx
theorem c_join {M : Mem} {g : Nat} (hN : WF N) (h : RD (M.1 g) N) (hw : wq N < 8) : ∃ M', f_X5_join g (nI u) (nI s) (nI t) (b2 e) M = some (nI (wq N), M') ∧ RD (M'.1 g) (joinS N u s t e) ∧ Fr g M M' := by
  have hq := hN.2.2.2.1
  have hrq := h.2.2.2.2.1
  have h12 : M.1 g 12 1 = nI (wq N) := hrq.1.trans (wq_eq hq)
  have k12 : ∀ f, (wrs M g 13 f).1 g 12 = M.1 g 12 := fun f => wrs_other _ _ _ _ (by omega)
  have st : ∀ (r : Nat → Int32) {w : Nat} (v : Int32), w < 4 → f_X5_setFact g (nI (wq N)) (nI w) v (wrs M g 13 r) = some (wrs M g 13 (upd r (4 * wq N + w) v)) := by
    intro r w v hw4
    rw [c_qset hw hw4, wr_wrs]
  have s0 := st (M.1 g 13) (w := 0) (nI u) (by decide)
  rw [wrs_self] at s0
  refine ⟨wr (wrs M g 13 (upd (upd (upd (upd (M.1 g 13) (4 * wq N + 0) (nI u)) (4 * wq N + 1) (nI s)) (4 * wq N + 2) (nI t)) (4 * wq N + 3) (b2 e))) g 12 1 (nI (wq N + 1)), ?_, ?_, (Fr_wrs _ _ _ _).tr (Fr_wr _ _ _ _ _)⟩
  · have last : ∀ (z : Int32) (r : Nat → Int32), B_X5_join_55 g z 3 (nI (wq N)) (wrs M g 13 r) = some (nI (wq N), wr (wrs M g 13 (upd r (4 * wq N + 3) z)) g 12 1 (nI (wq N + 1))) := by
      intro z r
      unfold B_X5_join_55
      rw [show f_X5_setFact g (nI (wq N)) 3 z _ = _ from st r (w := 3) z (by decide), Option.bind_some, k12, h12, wr_same, upd_same, show nI (wq N) + (1 : Int32) = nI (wq N + 1) from nI_1 _, show nI (wq N + 1) - (1 : Int32) = nI (wq N) from nI_pred _]
    unfold f_X5_join
    rw [c_isFull hrq hq, decide_eq_false (show ¬ wq N = 8 by omega), if_pos (show b2 false = 0 from rfl), h12, show f_X5_setFact g (nI (wq N)) 0 (nI u) M = _ from s0, Option.bind_some, k12, h12]
    rw [show f_X5_setFact g (nI (wq N)) 1 (nI s) _ = _ from st _ (w := 1) (nI s) (by decide), Option.bind_some, k12, h12]
    rw [show f_X5_setFact g (nI (wq N)) 2 (nI t) _ = _ from st _ (w := 2) (nI t) (by decide), Option.bind_some, k12, h12]
    cases e with
    | false => rw [if_pos (show b2 false = 0 from rfl)]; exact last (nI 0) _
    | true => rw [if_neg (show ¬ b2 true = 0 by decide)]; exact last (nI 1) _
  · refine RD_q joinS_lo (joinS_hi hw) hN (fun j h1 h2 => ?_) ⟨?_, fun k hk => ?_⟩ h
    · rw [wr_other _ _ _ _ _ (by omega), wrs_other _ _ _ _ (by omega)]
    · rw [wr_same, upd_same, joinS_n]
    · rw [joinS_wq hw] at hk
      rw [wr_other _ _ _ _ _ (by omega), wrs_same]
      by_cases h3 : k = wq N
      · subst h3
        rw [joinS_0, joinS_1, joinS_2, joinS_3]
        refine ⟨?_, ?_, ?_, ?_⟩
        · rw [upd_other (by omega), upd_other (by omega), upd_other (by omega)]; exact upd_same
        · rw [upd_other (by omega), upd_other (by omega), upd_same]
        · rw [upd_other (by omega), upd_same]
        · rw [upd_same]
      · have hk2 : k < wq N := by omega
        obtain ⟨b0, b1, b2', b3⟩ := hrq.2 k hk2
        have f0 := joinS_old (N := N) (u := u) (s := s) (t := t) (e := e) (w := 0) hk2 (by omega)
        rw [Nat.add_zero] at f0
        rw [f0, joinS_old hk2 (by omega), joinS_old hk2 (by omega), joinS_old hk2 (by omega)]
        refine ⟨?_, ?_, ?_, ?_⟩
        · rw [upd_other (by omega), upd_other (by omega), upd_other (by omega), upd_other (by omega)]; exact b0
        · rw [upd_other (by omega), upd_other (by omega), upd_other (by omega), upd_other (by omega)]; exact b1
        · rw [upd_other (by omega), upd_other (by omega), upd_other (by omega), upd_other (by omega)]; exact b2'
        · rw [upd_other (by omega), upd_other (by omega), upd_other (by omega), upd_other (by omega)]; exact b3
end JO
