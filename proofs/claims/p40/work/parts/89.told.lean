/-! ===== the latest entry of a line has its value ===== -/
section TD
variable {N : Row} {S : List Row} {T : List Nat} {M : Mem}
theorem e0_entry (hN : WFa N) (h : De N S T M) {e w : Nat} (he : e < hn N) (hw : w < 6) : f0_L_entry (nI e) (nI w) M = some (N (2702 + 6 * e + w), M) := by
  have hr := h.1
  have hl : hn N < 151 := hN.1.2.2.2.2.2.1.2
  obtain ⟨e14, f, hf, hf1, hf2⟩ := hr.2.2.2.2.2.1
  have e14 : M.1 0 14 2 = nI (hn N) := e14.trans hN.1.2.2.2.2.2.1.1
  have hS : inR (nI e) (hn N) = true := by rw [inR_nI (by omega) (by omega), decide_eq_true he]
  have hy : inR (nI w) 6 = true := by rw [inR_nI (by omega) (by omega), decide_eq_true hw]
  unfold f0_L_entry f0_X8_entry f0_X8_refuseFor
  rw [e14, wiN (nI e) (by omega), hS, wi5, fo2, fk_flt, hy, flt_0, if_pos rfl, Option.bind_some, c_hfact hf1 hf (by omega) hw, hf2 e w he hw]
  rfl
theorem e0_line (hN : WFa N) (h : De N S T M) {s l : Nat} (hs : s < 20) (hu : us N s = true) (hl : l < 6) : f0_L_line (nI s) (nI l) M = some (lin N (6 * s + l), M) := by
  have hr := h.1
  have hL : isL N (nI s) (nI l) = true := by unfold isL; rw [isS_nI hs, hu, inR_nI (by omega) (by omega), decide_eq_true hl]; rfl
  unfold f0_L_line f0_X8_line f0_X8_refuseFor f_X8_cellOf
  rw [c_hasLine hr.1 hN.1.1, hL, Option.bind_some, fo1, fk_flt, flt_0, if_pos rfl, Option.bind_some, show nI s * 6 + nI l = nI (6 * s + l) from by rw [show (6 : Int32) = nI 6 from rfl, pk_mul, nI_add, Nat.mul_comm], c_valueAt (by omega), hr.1.2.2.2.1 s l hs hl hu, lin_c]
  rfl
theorem e0_blame (hN : WFa N) (h : De N S T M) {s l : Nat} (hs : s < 20) (hu : us N s = true) (hl : l < 6) : f0_L_blame (nI s) (nI l) M = some (latU N s l (hn N), M) := by
  have hr := h.1
  have hL : isL N (nI s) (nI l) = true := by unfold isL; rw [isS_nI hs, hu, inR_nI (by omega) (by omega), decide_eq_true hl]; rfl
  unfold f0_L_blame f0_X8_blame f0_X8_refuseFor
  rw [c_hasLine hr.1 hN.1.1, hL, Option.bind_some, fo1, fk_flt, flt_0, if_pos rfl, Option.bind_some, c_latestUserOf hN.1.2.2.2.2.2 hr.2.2.2.2.2.1]
  rfl
theorem nx_no {k : Nat} {v : Int32} : ∀ d e, (∀ i, e ≤ i → i < e + d → eC N i ≠ k) → ∀ r, nx N k v e (d + r) = nx N k v (e + d) r := by
  intro d
  induction d with
  | zero => intro e _ r; rw [Nat.zero_add, Nat.add_zero]
  | succ d ih =>
    intro e h r
    rw [show d + 1 + r = (d + r) + 1 by omega, nx, if_neg (h e (Nat.le_refl _) (by omega)), ih (e + 1) (fun i h1 h2 => h i (by omega) (by omega)), show e + 1 + d = e + (d + 1) by omega]
theorem mt_eC (hh : WFh N) {s l e : Nat} (he : e < hn N) (hs : s < 20) (hl : l < 6) : mtE N s l e = decide (eC N e = 6 * s + l) := by
  obtain ⟨⟨a1, a2⟩, ⟨b1, b2'⟩, -⟩ := hh.2 e he
  unfold mtE eC
  rw [decide_eq_decide.mpr (show N (2702 + 6 * e + 1) = nI s ↔ cl (N (2702 + 6 * e + 1)) = s by rw [a1, nI_eq (by omega) (by omega), cl_nI (by omega)]), decide_eq_decide.mpr (show N (2702 + 6 * e + 2) = nI l ↔ cl (N (2702 + 6 * e + 2)) = l by rw [b1, nI_eq (by omega) (by omega), cl_nI (by omega)])]
  by_cases h : cl (N (2702 + 6 * e + 1)) = s
  · by_cases h2 : cl (N (2702 + 6 * e + 2)) = l
    · rw [decide_eq_true h, decide_eq_true h2, decide_eq_true (by omega)]; rfl
    · rw [decide_eq_true h, decide_eq_false h2, decide_eq_false (by omega)]; rfl
  · rw [decide_eq_false h, Bool.false_and, decide_eq_false (by omega)]
/-- the inner loop: from entry j on, b: no entry of k's line between k and j -/
theorem p_told42 (hN : WFa N) (hI : HI N) (h : De N S T M) (k9 : Int32 → Int32 → Mem → Option (Int32 × Mem)) {k : Nat} (hk : k < hn N) : ∀ d j, j + d = hn N → k < j → ∀ (b : Bool), (b = true → ∀ i, k < i → i < j → eC N i ≠ eC N k) → ∀ n, d < n → L_L_isTold_42 k9 (nI (hn N)) (nI k) (nI (eC N k / 6)) (nI (eC N k % 6)) n 1 (b2 b) (nI j) M = k9 1 (nI (k + 1)) M := by
  have hh := hN.1.2.2.2.2.2
  have hl : hn N < 151 := hh.1.2
  obtain ⟨i1, i2, i3⟩ := hI k hk
  obtain ⟨c1, c2, c3⟩ := eC_lt hh hk
  have hs20 : eC N k / 6 < 20 := by omega
  have hl6 : eC N k % 6 < 6 := by omega
  have hcell : 6 * (eC N k / 6) + eC N k % 6 = eC N k := by omega
  have e201 : ∀ z, B_L_isTold_201 k9 (nI (hn N)) (nI k) z M = k9 z (nI (k + 1)) M := fun z => by unfold B_L_isTold_201; rw [nI_s1]
  have e181 : B_L_isTold_181 k9 (nI (hn N)) (nI k) M = k9 1 (nI (k + 1)) M := by
    unfold B_L_isTold_181
    rw [show f0_L_entry (nI k) 3 M = _ from e0_entry hN h hk (w := 3) (by omega), Option.bind_some]
    dsimp only
    rw [show f0_L_entry (nI k) 4 M = _ from e0_entry hN h hk (w := 4) (by omega), Option.bind_some]
    dsimp only
    rw [if_neg i2]
    exact e201 1
  intro d
  induction d with
  | zero =>
    intro j hj hkj b hb n hn1
    obtain ⟨n, rfl⟩ : ∃ m, n = m + 1 := ⟨n - 1, by omega⟩
    have : j = hn N := by omega
    subst this
    rw [L_L_isTold_42, if_pos (Int32.le_refl _), if_neg (show ¬ (1 : Int32) = 0 by decide)]
    cases b with
    | false => rw [if_pos (show b2 false = 0 from rfl)]; exact e181
    | true =>
      have hno := hb rfl
      have ev : lin N (eC N k) = N (2702 + 6 * k + 4) := by
        have := nx_no (N := N) (k := eC N k) (v := lin N (eC N k)) (hn N - (k + 1)) (k + 1) (fun i h1 h2 => hno i (by omega) (by omega)) 0
        rw [Nat.add_zero (hn N - (k + 1)), i3] at this
        exact this.symm
      have eu : latU N (eC N k / 6) (eC N k % 6) (hn N) = N (2702 + 6 * k + 5) := by
        refine Lt_lat (R := N) (a := hn N) ⟨k, hk, by omega, ?_, rfl, fun j h1 h2 => ?_⟩
        · rw [mt_eC hh hk hs20 hl6, decide_eq_true hcell.symm]
        · rw [mt_eC hh h2 hs20 hl6, decide_eq_false (by rw [hcell]; exact hno j h1 h2)]
      rw [if_neg (show ¬ b2 true = 0 by decide), e0_line hN h hs20 i1 hl6, Option.bind_some]
      dsimp only
      rw [hcell, show f0_L_entry (nI k) 4 M = _ from e0_entry hN h hk (w := 4) (by omega), Option.bind_some]
      dsimp only
      rw [if_pos ev, e0_blame hN h hs20 i1 hl6, Option.bind_some]
      dsimp only
      rw [show f0_L_entry (nI k) 5 M = _ from e0_entry hN h hk (w := 5) (by omega), Option.bind_some]
      dsimp only
      rw [if_pos eu]
      exact e181
  | succ d ih =>
    intro j hj hkj b hb n hn1
    obtain ⟨n, rfl⟩ : ∃ m, n = m + 1 := ⟨n - 1, by omega⟩
    have hjn : j < hn N := by omega
    obtain ⟨⟨a1, a2⟩, ⟨a3, a4⟩, -⟩ := hh.2 j hjn
    have e130 : ∀ (b' : Bool) (w7 : Int32), B_L_isTold_130 k9 (L_L_isTold_42 k9 (nI (hn N)) (nI k) (nI (eC N k / 6)) (nI (eC N k % 6)) n) 1 (nI (hn N)) (nI k) (nI (eC N k / 6)) (nI (eC N k % 6)) (nI j) (b2 b') M = L_L_isTold_42 k9 (nI (hn N)) (nI k) (nI (eC N k / 6)) (nI (eC N k % 6)) n 1 (b2 b') (nI (j + 1)) M := fun b' _ => by unfold B_L_isTold_130; rw [nI_s1]
    -- behind the test: z0 says whether j is of the line
    have e114 : ∀ (z : Bool), z = decide (eC N j = eC N k) → B_L_isTold_114 k9 (L_L_isTold_42 k9 (nI (hn N)) (nI k) (nI (eC N k / 6)) (nI (eC N k % 6)) n) (nI (hn N)) (nI k) (nI (eC N k / 6)) (nI (eC N k % 6)) (b2 b) (nI j) (b2 z) 1 M = k9 1 (nI (k + 1)) M := by
      intro z hz
      unfold B_L_isTold_114
      cases b with
      | false =>
        rw [if_pos (show b2 false = 0 from rfl)]
        unfold B_L_isTold_129
        rw [show (0 : Int32) = b2 false from rfl, e130 false 0]
        exact ih (j + 1) (by omega) (by omega) false (fun z => by cases z) n (by omega)
      | true =>
        rw [if_neg (show ¬ b2 true = 0 by decide)]
        cases z with
        | false =>
          rw [if_pos (show b2 false = 0 from rfl), show (1 : Int32) = b2 true from rfl]
          have := e130 true 0
          rw [show (1 : Int32) = b2 true from rfl] at this
          rw [this]
          refine ih (j + 1) (by omega) (by omega) true (fun _ i h1 h2 => ?_) n (by omega)
          by_cases hij : i = j
          · subst hij
            exact of_decide_eq_false hz.symm
          · exact hb rfl i h1 (by omega)
        | true =>
          rw [if_neg (show ¬ b2 true = 0 by decide)]
          unfold B_L_isTold_129
          rw [show (0 : Int32) = b2 false from rfl, e130 false 0]
          exact ih (j + 1) (by omega) (by omega) false (fun z => by cases z) n (by omega)
    have e77 : ∀ (z : Bool), z = decide (eC N j = eC N k) → B_L_isTold_77 k9 (L_L_isTold_42 k9 (nI (hn N)) (nI k) (nI (eC N k / 6)) (nI (eC N k % 6)) n) 1 (nI (hn N)) (nI k) (nI (eC N k / 6)) (nI (eC N k % 6)) (b2 b) (nI j) (b2 z) M = k9 1 (nI (k + 1)) M := by
      intro z hz
      have e109 := e114 z hz
      unfold B_L_isTold_77
      rw [if_neg (show ¬ (1 : Int32) = 0 by decide)]
      by_cases hb1 : b2 b = 0
      · rw [if_pos hb1]
        exact e109
      · rw [if_neg hb1]
        by_cases hz1 : b2 z = 0
        · rw [if_pos hz1]
          exact e109
        · have hbt : b = true := by cases b with | true => rfl | false => exact absurd rfl hb1
          have hzt : z = true := by cases z with | true => rfl | false => exact absurd rfl hz1
          have hj2 : eC N j = eC N k := of_decide_eq_true (by rw [← hz]; exact hzt)
          have ev : N (2702 + 6 * j + 3) = N (2702 + 6 * k + 4) := by
            have := nx_no (N := N) (k := eC N k) (v := lin N (eC N k)) (j - (k + 1)) (k + 1) (fun i h1 h2 => hb hbt i (by omega) (by omega)) (hn N - j)
            rw [show j - (k + 1) + (hn N - j) = hn N - (k + 1) by omega, i3, show k + 1 + (j - (k + 1)) = j by omega, show hn N - j = (hn N - j - 1) + 1 by omega, nx, if_pos hj2] at this
            exact this.symm
          rw [if_neg hz1, show f0_L_entry (nI j) 3 M = _ from e0_entry hN h hjn (w := 3) (by omega), Option.bind_some]
          dsimp only
          rw [show f0_L_entry (nI k) 4 M = _ from e0_entry hN h hk (w := 4) (by omega), Option.bind_some]
          dsimp only
          rw [if_pos ev]
          exact e109
    have e76 := e77 false
    rw [L_L_isTold_42, if_neg (show ¬ nI (hn N) ≤ nI j by rw [nI_leI (by omega) (by omega)]; omega), show f0_L_entry (nI j) 1 M = _ from e0_entry hN h hjn (w := 1) (by omega), Option.bind_some]
    dsimp only
    by_cases h1 : N (2702 + 6 * j + 1) = nI (eC N k / 6)
    · rw [if_pos h1, show f0_L_entry (nI j) 2 M = _ from e0_entry hN h hjn (w := 2) (by omega), Option.bind_some]
      dsimp only
      have h1' : cl (N (2702 + 6 * j + 1)) = eC N k / 6 := by rw [h1, cl_nI (by omega)]
      by_cases h2 : N (2702 + 6 * j + 2) = nI (eC N k % 6)
      · rw [if_pos h2]
        have h2' : cl (N (2702 + 6 * j + 2)) = eC N k % 6 := by rw [h2, cl_nI (by omega)]
        exact e77 true (decide_eq_true (by show 6 * cl (N (2702 + 6 * j + 1)) + cl (N (2702 + 6 * j + 2)) = _; omega)).symm
      · rw [if_neg h2]
        refine e76 (decide_eq_false fun z => h2 ?_).symm
        have z : 6 * cl (N (2702 + 6 * j + 1)) + cl (N (2702 + 6 * j + 2)) = eC N k := z
        rw [a3, nI_eq (by omega) (by omega)]
        omega
    · rw [if_neg h1]
      refine e76 (decide_eq_false fun z => h1 ?_).symm
      have z : 6 * cl (N (2702 + 6 * j + 1)) + cl (N (2702 + 6 * j + 2)) = eC N k := z
      rw [a1, nI_eq (by omega) (by omega)]
      omega
theorem p_told (hN : WFa N) (hI : HI N) (h : De N S T M) : f_L_isTold M = some (1, M) := by
  have hh := hN.1.2.2.2.2.2
  have hl : hn N < 151 := hh.1.2
  have key : ∀ d k, k + d = hn N → ∀ n, d < n → L_L_isTold_9 (nI (hn N)) n 1 (nI k) M = some (1, M) := by
    intro d
    induction d with
    | zero =>
      intro k hk n hn1
      obtain ⟨n, rfl⟩ : ∃ m, n = m + 1 := ⟨n - 1, by omega⟩
      have : k = hn N := by omega
      subst this
      rw [L_L_isTold_9, if_pos (Int32.le_refl _), if_pos (show isb 1 = true by decide)]
    | succ d ih =>
      intro k hk n hn1
      obtain ⟨n, rfl⟩ : ∃ m, n = m + 1 := ⟨n - 1, by omega⟩
      have hkn : k < hn N := by omega
      obtain ⟨c1, c2, c3⟩ := eC_lt hh hkn
      obtain ⟨⟨a1, a2⟩, ⟨a3, a4⟩, -⟩ := hh.2 k hkn
      rw [L_L_isTold_9, if_neg (show ¬ nI (hn N) ≤ nI k by rw [nI_leI (by omega) (by omega)]; omega), if_neg (show ¬ (1 : Int32) = 0 by decide), show f0_L_entry (nI k) 1 M = _ from e0_entry hN h hkn (w := 1) (by omega), Option.bind_some]
      dsimp only
      rw [show f0_L_entry (nI k) 2 M = _ from e0_entry hN h hkn (w := 2) (by omega), Option.bind_some]
      dsimp only
      rw [a1, a3, ← c2, ← c3, nI_s1]
      have := p_told42 hN hI h (L_L_isTold_9 (nI (hn N)) n) hkn (hn N - (k + 1)) (k + 1) (by omega) (by omega) true (fun _ i h1 h2 => by omega) 152 (by omega)
      rw [show b2 true = 1 from rfl] at this
      rw [this]
      exact ih (k + 1) (by omega) n (by omega)
  unfold f_L_isTold
  rw [e_entries hN h]
  exact key (hn N) 0 (by omega) 152 (by omega)
end TD
