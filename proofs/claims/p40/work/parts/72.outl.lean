/-! ===== the outline: what is written, and how long it is ===== -/
def numL (s : Nat) : List Int32 := if s < 10 then [nI (48 + s)] else [nI (48 + s / 10), nI (48 + s % 10)]
def chI (N : Row) (s j : Nat) : Nat := cl (chAt N s (nI j) 20)
def sepC (j : Nat) : Int32 := if j = 0 then nI 40 else nI 44
def kidL (N : Row) (T : Nat → List Int32) (s : Nat) : Nat → List Int32
  | 0 => []
  | j + 1 => (kidL N T s j ++ [sepC j]) ++ T (chI N s j)
def outT (N : Row) : Nat → Nat → List Int32
  | 0, _ => []
  | f + 1, s => if chMany N s = 0 then numL s else (numL s ++ kidL N (outT N f) s (chMany N s)) ++ [nI 41]
theorem numL_len (s : Nat) : 1 ≤ (numL s).length ∧ (numL s).length ≤ 2 := by
  unfold numL
  by_cases h : s < 10
  · rw [if_pos h]; exact ⟨Nat.le_refl 1, (by show 1 ≤ 2; omega)⟩
  · rw [if_neg h]; exact ⟨(by show 1 ≤ 2; omega), Nat.le_refl 2⟩
theorem kidL_mono {N : Row} {T : Nat → List Int32} {s j : Nat} : ∀ {m : Nat}, j ≤ m → (kidL N T s j).length ≤ (kidL N T s m).length
  | 0, h => by rw [show j = 0 by omega]; exact Nat.le_refl _
  | m + 1, h => by
    by_cases hj : j = m + 1
    · rw [hj]; exact Nat.le_refl _
    · have := kidL_mono (N := N) (T := T) (s := s) (j := j) (m := m) (by omega)
      rw [kidL, List.length_append, List.length_append]
      omega
/-- the children are all there -/
def HC (N : Row) : Prop := ∀ s, s < 20 → us N s = true → ∀ j, j < chMany N s → chI N s j < 20 ∧ isCh N (chI N s j) s = true ∧ rk N s (chI N s j) = j ∧ chAt N s (nI j) 20 = nI (chI N s j)
theorem HC_of {M : Mem} {g : Nat} {N : Row} (hN : WFt N) (h : RDs (M.1 g) N) : HC N := by
  intro s hs hu j hj
  obtain ⟨c, h1, h2, h3⟩ := rk_ex hN h hj
  have e : chAt N s (nI j) 20 = nI c := chAt_yes hN h2 (by rw [h3]) 20 h1 (Nat.le_refl _)
  unfold chI
  rw [e, cl_nI (by omega)]
  exact ⟨h1, h2, h3, rfl⟩
section OB
variable {N : Row}
theorem cntN_or {p q r : Nat → Bool} : ∀ {n : Nat}, (∀ k, k < n → r k = (p k || q k)) → (∀ k, k < n → p k = true → q k = false) → cntN r n = cntN p n + cntN q n
  | 0, _, _ => rfl
  | n + 1, h1, h2 => by
    rw [cntN_s, cntN_s, cntN_s, cntN_or (fun k hk => h1 k (by omega)) (fun k hk => h2 k (by omega)), h1 n (by omega)]
    cases hp : p n with
    | true =>
      rw [h2 n (by omega) hp]
      show cntN p n + cntN q n + 1 = cntN p n + 1 + (cntN q n + 0)
      omega
    | false =>
      show cntN p n + cntN q n + (q n).toNat = cntN p n + 0 + (cntN q n + (q n).toNat)
      omega
theorem bl_1 {c : Nat} (hc : c < 20) (hu : us N c = true) : cntN (fun t => us N t && An N t c) 20 = blN N c + 1 := by
  rw [cnt_del (a := c) hc, hu, An_refl]
  unfold blN
  congr 1
  refine cntN_c fun t _ => ?_
  cases us N t <;> cases An N t c <;> cases decide (t = c) <;> rfl
theorem ch_An (hN : WFt N) {s c : Nat} (hc : c < 20) (h : isCh N c s = true) {t : Nat} : An N c t = (c == t || An N s t) := by
  obtain ⟨h0, hu, hp⟩ := isCh_t h
  rw [An_s hN (by omega) hc hu, hp]
/-- two children have nothing in common -/
theorem ch_dis (hN : WFt N) {s c c' t : Nat} (hs : s < 20) (hsu : us N s = true) (hc : c < 20) (h : isCh N c s = true) (hc' : c' < 20) (h' : isCh N c' s = true) (hne : c ≠ c') (ht : t < 20) (hu : us N t = true) (h1 : An N t c = true) : An N t c' = false := by
  cases h2 : An N t c' with
  | false => rfl
  | true =>
    exfalso
    obtain ⟨z0, zu, zp⟩ := isCh_t h
    obtain ⟨z0', zu', zp'⟩ := isCh_t h'
    have hup : ∀ a b, a < 20 → isCh N a s = true → b < 20 → isCh N b s = true → a ≠ b → An N a b = true → False := fun a b ha hca hb hcb hab hAB => by
      rw [ch_An hN ha hca, beq_no hab, Bool.false_or] at hAB
      have hBs : An N b s = true := by rw [ch_An hN hb hcb, An_refl, Bool.or_true]
      have := An_anti hN hs hsu hAB hBs
      subst this
      obtain ⟨y0, yu, yp⟩ := isCh_t hcb
      obtain ⟨r, r1, r2, -⟩ := rank20 hN
      have := r2 s (by omega) hs hsu
      rw [yp] at this
      omega
    have hO := An_cmp hN t ht hu h1 h2
    unfold Ov at hO
    rw [Bool.or_eq_true] at hO
    rcases hO with hO | hO
    · exact hup c c' hc h hc' h' hne hO
    · exact hup c' c hc' h' hc h (fun e => hne e.symm) hO
theorem kid_len (hN : WFt N) (hH : HC N) {T : Nat → List Int32} {s : Nat} (hs : s < 20) (hsu : us N s = true) (hT : ∀ c, c < 20 → us N c = true → (T c).length + 1 ≤ 4 * (blN N c + 1)) : ∀ j, j ≤ chMany N s → (kidL N T s j).length ≤ 4 * cntN (fun t => us N t && anyN (fun i => An N t (chI N s i)) j) 20
  | 0, _ => Nat.zero_le _
  | j + 1, h => by
    have ih := kid_len hN hH hs hsu hT j (by omega)
    obtain ⟨c1, c2, c3, -⟩ := hH s hs hsu j (by omega)
    have cu := (isCh_t c2).2.1
    have e := cntN_or (n := 20) (r := fun t => us N t && anyN (fun i => An N t (chI N s i)) (j + 1)) (p := fun t => us N t && anyN (fun i => An N t (chI N s i)) j) (q := fun t => us N t && An N t (chI N s j)) (fun t _ => by
      rw [anyN_s]
      cases us N t <;> cases anyN (fun i => An N t (chI N s i)) j <;> cases An N t (chI N s j) <;> rfl) (fun t ht hp => by
      rw [Bool.and_eq_true] at hp
      obtain ⟨i, hi, hA⟩ := anyN_t.mp hp.2
      obtain ⟨d1, d2, d3, -⟩ := hH s hs hsu i (by omega)
      rw [hp.1, Bool.true_and]
      exact ch_dis hN hs hsu d1 d2 c1 c2 (fun e => by rw [e] at d3; omega) ht hp.1 hA)
    rw [e, bl_1 c1 cu, kidL, List.length_append, List.length_append]
    have := hT _ c1 cu
    show (kidL N T s j).length + 1 + (T (chI N s j)).length ≤ _
    omega
theorem out_len (hN : WFt N) (hH : HC N) : ∀ f s, s < 20 → us N s = true → (outT N f s).length + 1 ≤ 4 * (blN N s + 1)
  | 0, s, _, _ => by rw [outT]; show 0 + 1 ≤ _; omega
  | f + 1, s, hs, hu => by
    have hn := (numL_len s).2
    rw [outT]
    by_cases h0 : chMany N s = 0
    · rw [if_pos h0]; omega
    · rw [if_neg h0, List.length_append, List.length_append]
      have hk := kid_len hN hH hs hu (T := outT N f) (fun c hc hcu => out_len hN hH f c hc hcu) (chMany N s) (Nat.le_refl _)
      have hm : cntN (fun t => us N t && anyN (fun i => An N t (chI N s i)) (chMany N s)) 20 ≤ blN N s := by
        unfold blN
        refine cntN_mono fun t ht hp => ?_
        rw [Bool.and_eq_true] at hp
        obtain ⟨i, hi, hA⟩ := anyN_t.mp hp.2
        obtain ⟨d1, d2, d3, -⟩ := hH s hs hu i hi
        have hcs : An N (chI N s i) s = true := by rw [ch_An hN d1 d2, An_refl, Bool.or_true]
        have hts := An_tr hN t ht hp.1 hA hcs
        rw [hp.1, hts, Bool.true_and, Bool.and_true, Bool.not_eq_true', decide_eq_false_iff_not]
        intro e
        subst e
        have h1 := An_anti hN ht hp.1 hA hcs
        obtain ⟨y0, yu, yp⟩ := isCh_t d2
        obtain ⟨r, r1, r2, -⟩ := rank20 hN
        have := r2 (chI N t i) (by omega) d1 yu
        rw [yp, ← h1] at this
        omega
      show (numL s).length + (kidL N (outT N f) s (chMany N s)).length + 1 + 1 ≤ _
      omega
theorem out_80 (hN : WFt N) (hH : HC N) (f : Nat) : (outT N f 0).length ≤ 80 := by
  have h1 := out_len hN hH f 0 (by omega) (us_0 hN)
  have h2 : blN N 0 ≤ 19 := by
    have := bl_1 (N := N) (c := 0) (by omega) (us_0 hN)
    have := cntN_le (fun t => us N t && An N t 0) 20
    omega
  omega
end OB
