/-! ===== the new desk ===== -/
def N0 : Row := upd (upd (fun _ => nI 0) 2 (nI 1)) 22 mI
theorem N0_o {k : Nat} (h : k ≠ 2) (h2 : k ≠ 22) : N0 k = nI 0 := by unfold N0; rw [upd_other h2, upd_other h]
theorem N0_22 : N0 22 = mI := by unfold N0; rw [upd_same]
theorem N0_2 : N0 2 = nI 1 := by unfold N0; rw [upd_other (by omega), upd_same]
theorem N0_us {t : Nat} (ht : t < 20) : us N0 t = decide (t = 0) := by
  unfold us
  by_cases h : t = 0
  · subst h; rw [N0_2]; rfl
  · rw [N0_o (by omega) (by omega), decide_eq_false h]; rfl
theorem N0_v {k b : Nat} (hb : 0 < b) (h : k ≠ 2) (h2 : k ≠ 22) : isV N0 k b := by
  unfold isV
  rw [N0_o h h2, cl_nI (by omega)]
  exact ⟨rfl, hb⟩
theorem N0_ck {c : Nat} (hc : c < 10) : ck N0 c = false := by
  unfold ck
  rw [N0_o (by omega) (by omega)]
  rfl
theorem N0_hd {c : Nat} (hc : c < 10) : hd N0 c = false := by
  unfold hd
  rw [N0_o (by omega) (by omega)]
  rfl
theorem N0_wq : wq N0 = 0 := by
  unfold wq
  rw [N0_o (by omega) (by omega), cl_nI (by omega)]
theorem N0_hn : hn N0 = 0 := by
  unfold hn
  rw [N0_o (by omega) (by omega), cl_nI (by omega)]
theorem N0_many : manyS N0 = 1 := by
  unfold manyS
  rw [cntN_c (q := fun t => decide (t = 0)) (fun t ht => N0_us ht)]
  rfl
theorem WFt_0 : WFt N0 := by
  have hno : ∀ t, 0 < t → t < 20 → us N0 t = true → False := fun t h0 ht hu => by
    rw [N0_us ht, decide_eq_true_eq] at hu
    omega
  refine ⟨fun t ht => ?_, N0_2, N0_22, fun t h0 ht hu => (hno t h0 ht hu).elim, ⟨fun _ => 0, fun t h0 ht hu => (hno t h0 ht hu).elim⟩, N0_v (by omega) (by omega) (by omega), fun t h0 ht hu => (hno t h0 ht hu).elim, fun t t' a b c a' b' c' e => (hno t a b c).elim⟩
  by_cases h : t = 0
  · subst h; exact Or.inr N0_2
  · exact Or.inl (N0_o (by omega) (by omega))
theorem WFa_0 : WFa N0 := by
  refine ⟨⟨WFt_0, ⟨N0_v (by omega) (by omega) (by omega), fun c hc => ⟨N0_v (by omega) (by omega) (by omega), N0_v (by omega) (by omega) (by omega), N0_v (by omega) (by omega) (by omega), N0_v (by omega) (by omega) (by omega), fun hk => ?_, fun hk => ?_⟩⟩, ⟨fun k hk => N0_v (by omega) (by omega) (by omega), fun k hk => N0_v (by omega) (by omega) (by omega)⟩, ⟨N0_v (by omega) (by omega) (by omega), fun k hk => ?_, fun k k' hk => ?_⟩, fun u hu => N0_v (by omega) (by omega) (by omega), ⟨N0_v (by omega) (by omega) (by omega), fun e he => ?_⟩⟩, fun c c' h1 h2 h3 h4 => ?_⟩
  · rw [N0_ck hc] at hk; cases hk
  · have := hel_ck hk; rw [N0_ck hc] at this; cases this
  · rw [N0_wq] at hk; exact absurd hk (Nat.not_lt_zero _)
  · rw [N0_wq] at hk; exact absurd hk (Nat.not_lt_zero _)
  · rw [N0_hn] at he; exact absurd he (Nat.not_lt_zero _)
  · have := hel_ck h4; rw [N0_ck h1] at this; cases this
theorem D_2 {t : Nat} (ht : t < 20) : M0.1 0 2 t = if t = 0 then mI else mII := by
  show upd (nfill 20 (-2) (fun _ => 0)) 0 (-1) t = _
  by_cases h : t = 0
  · subst h; rw [upd_same, if_pos rfl]; rfl
  · rw [upd_other h, if_neg h]
    unfold nfill
    rw [if_pos ht]
    rfl
theorem bt_oneN {s : Nat} (hs : s < 32) : bt (nI 1) s = decide (s = 0) := by
  have := bt_one 0 (by omega) s hs
  rw [show nI 1 <<< (nI 0 &&& nI 31) = nI 1 from by decide] at this
  exact this
theorem RD_0 : RD (M0.1 0) N0 := by
  have hus : ∀ t, t < 20 → us N0 t = true → t = 0 := fun t ht hu => by rw [N0_us ht, decide_eq_true_eq] at hu; exact hu
  have hA : An N0 0 0 = true := An_refl 0
  have d6 : ∀ t, t < 20 → (upd (fun _ => (0 : Int32)) 0 1) t = if t = 0 then nI 1 else nI 0 := fun t ht => by
    by_cases h : t = 0
    · subst h; rw [upd_same, if_pos rfl]; rfl
    · rw [upd_other h, if_neg h]; rfl
  have key : ∀ t, t < 20 → ∀ s, s < 32 → bt (if t = 0 then nI 1 else nI 0) s = (decide (s < 20) && (us N0 s && (us N0 t && An N0 s t))) := fun t ht s hs => by
    by_cases h : t = 0
    · subst h
      rw [if_pos rfl, bt_oneN hs]
      by_cases h2 : s = 0
      · subst h2; rw [hA, N0_us (by omega)]; rfl
      · rw [decide_eq_false h2]
        by_cases h3 : s < 20
        · rw [N0_us h3, decide_eq_false h2, Bool.false_and, Bool.and_false]
        · rw [decide_eq_false h3, Bool.false_and]
    · rw [if_neg h, bt_0, N0_us ht, decide_eq_false h, Bool.false_and, Bool.and_false, Bool.and_false]
  have key2 : ∀ s, s < 20 → ∀ t, t < 32 → bt (if s = 0 then nI 1 else nI 0) t = (decide (t < 20) && (us N0 s && (us N0 t && An N0 s t))) := fun s hs t ht => by
    by_cases h : s = 0
    · subst h
      rw [if_pos rfl, bt_oneN ht]
      by_cases h2 : t = 0
      · subst h2; rw [hA, N0_us (by omega)]; rfl
      · rw [decide_eq_false h2]
        by_cases h3 : t < 20
        · rw [N0_us h3, decide_eq_false h2, Bool.false_and, Bool.and_false, Bool.and_false]
        · rw [decide_eq_false h3, Bool.false_and]
    · rw [if_neg h, bt_0, N0_us hs, decide_eq_false h, Bool.false_and, Bool.and_false]
  refine ⟨⟨fun s hs hu => ?_, fun s hs hu => ?_, fun s hs hu => ?_, fun s l hs hl hu => ?_, fun t ht s hs => ?_, fun s hs t ht => ?_⟩, ⟨by rw [N0_many]; rfl, fun _ => 0, fun i hi => ⟨rfl, Nat.zero_lt_succ 19, us_0 WFt_0⟩, fun s hs hu => ⟨0, by rw [N0_many]; omega, (hus s hs hu).symm⟩, fun i j h1 h2 => ?_, fun i j h1 h2 => ?_⟩, ⟨fun c hc => ?_, fun c hc hk => ?_⟩, fun c s l hc hs hl hk => ?_, ⟨?_, fun k hk => ?_⟩, ⟨?_, 0, by omega, rfl, fun e w he => ?_⟩, ⟨?_, fun u hu => ?_⟩⟩
  · have := hus s hs hu; subst this; rw [D_2 (by omega), if_pos rfl, N0_22]
  · rw [D_2 hs, if_neg (fun e => by subst e; rw [us_0 WFt_0] at hu; cases hu)]
  · rw [N0_o (by omega) (by omega)]; rfl
  · rw [N0_o (by omega) (by omega)]; rfl
  · have e : M0.1 0 6 t = if t = 0 then nI 1 else nI 0 := d6 t ht
    rw [e]; exact key t ht s hs
  · have e : M0.1 0 7 s = if s = 0 then nI 1 else nI 0 := d6 s hs
    rw [e]; exact key2 s hs t ht
  · rw [N0_many] at h2; omega
  · rw [N0_many] at h2; omega
  · have e : M0.1 0 8 3 = nI 0 := rfl
    rw [e, bt_0]
    by_cases h : c < 10
    · rw [N0_ck h, Bool.and_false]
    · rw [decide_eq_false h, Bool.false_and]
  · rw [N0_ck hc] at hk; cases hk
  · rw [N0_ck hc] at hk; cases hk
  · rw [N0_o (by omega) (by omega)]; rfl
  · rw [N0_wq] at hk; exact absurd hk (Nat.not_lt_zero _)
  · rw [N0_o (by omega) (by omega)]; rfl
  · rw [N0_hn] at he; exact absurd he (Nat.not_lt_zero _)
  · rw [N0_o (by omega) (by omega)]; rfl
  · rw [N0_o (by omega) (by omega)]; rfl
theorem hel_0 {c : Nat} (hc : c < 10) : hel N0 c = false := by
  unfold hel
  rw [N0_ck hc]
  rfl
theorem Inv_0 : Inv N0 := by
  refine ⟨fun c hc h => ?_, fun e he => ?_⟩
  · rw [hel_0 hc] at h; cases h
  · rw [N0_hn] at he; exact absurd he (Nat.not_lt_zero _)
theorem SVC_0 : SVC M0 0 (fun _ => N0) := ⟨by omega, rfl, fun i => i, fun i hi => ⟨show nI (i + 2) = nI (2 + i) by rw [Nat.add_comm], hi⟩, fun i j _ _ h => h, fun i hi => absurd hi (Nat.not_lt_zero _)⟩
theorem SvL_0 : SvL M0 [] := by
  refine ⟨Nat.zero_le 4, ?_, fun _ => N0, SVC_0, fun i hi => absurd hi (Nat.not_lt_zero _)⟩
  intro r hr
  exact absurd hr List.not_mem_nil
theorem De_0 : De N0 [] [] M0 := by
  refine ⟨RD_0, SvL_0, Nat.zero_le 120, rfl, ?_⟩
  intro i v hi
  rw [List.getElem?_nil] at hi
  cases hi
theorem TB_0 : TB 0 N0 := by
  refine ⟨WFa_0, ?_, ?_⟩
  · rw [N0_o (by omega) (by omega), cl_nI (by omega)]; omega
  · rw [N0_o (by omega) (by omega), cl_nI (by omega)]; omega
