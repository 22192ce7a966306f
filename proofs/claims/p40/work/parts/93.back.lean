/-! ===== a check-out that comes back ===== -/
section CB
variable {N : Row} {S : List Row} {T : List Nat} {M : Mem}
theorem cntN_le2 {p q : Nat → Bool} : ∀ {n : Nat}, (∀ k, k < n → p k = true → q k = true) → cntN p n ≤ cntN q n
  | 0, _ => Nat.le_refl _
  | n + 1, h => by
    have := cntN_le2 (n := n) (fun k hk => h k (by omega))
    rw [cntN_s, cntN_s]
    cases hp : p n with
    | false => show cntN p n + 0 ≤ _; omega
    | true => rw [h n (by omega) hp]; show cntN p n + 1 ≤ cntN q n + 1; omega
theorem cf_le {c : Nat} : cntCf N c ≤ cntEd N c := by
  unfold cntCf cntEd
  split
  · exact Nat.zero_le _
  · refine cntN_le2 fun k _ h => ?_
    unfold cfK at h
    unfold edK
    rw [Bool.and_eq_true, Bool.and_eq_true] at h
    rw [h.1, h.2.1]
    rfl
theorem mine_ed (hB : BD N) {c p k : Nat} (hc : c < 10) (hck : ck N c = true) (hk : k < 120) (h : chg N (mgK N c p) k = true) : edK N c k = true := by
  unfold chg mgK at h
  rw [Bool.not_eq_true', decide_eq_false_iff_not] at h
  by_cases hm : cop N c (k / 6) = true ∧ mine N c p k = true
  · rw [if_pos hm] at h
    have h : lin N k ≠ own N c k := h
    unfold edK
    rw [hm.1, Bool.true_and, Bool.not_eq_true', decide_eq_false_iff_not]
    have h2 := hm.2
    unfold mine at h2
    cases hd1 : hd N c with
    | true =>
      rw [hd1, if_pos rfl, Bool.not_eq_true'] at h2
      have := hB c hc (by unfold hel; rw [hck, hd1]; rfl) h2 k hk hm.1
      rw [this]
      exact fun z => h z.symm
    | false =>
      rw [hd1, if_neg (by decide), Bool.and_eq_true, Bool.not_eq_true', decide_eq_false_iff_not] at h2
      exact h2.1
  · rw [if_neg hm] at h
    exact absurd rfl h
theorem giv_le (hN : WFa N) (hB : BD N) {c p : Nat} (hc : c < 10) (hck : ck N c = true) : (givB N c p).1 ≤ cntEd N c := by
  unfold givB
  rw [bec_cnt hN.1]
  exact cntN_le2 fun k hk h => mine_ed hB hc hck hk h
theorem giv_eq (hN : WFa N) (hB : BD N) {c p : Nat} (hc : c < 10) (hck : ck N c = true) (hd1 : hd N c = true) (hsh : sh N c = false) : (givB N c p).1 = cntEd N c := by
  unfold givB
  rw [bec_cnt hN.1]
  unfold cntEd
  refine cntN_c fun k hk => ?_
  cases h : edK N c k with
  | false =>
    cases h2 : chg N (mgK N c p) k with
    | false => rfl
    | true => rw [mine_ed hB hc hck hk h2] at h; cases h
  | true =>
    unfold edK at h
    rw [Bool.and_eq_true, Bool.not_eq_true', decide_eq_false_iff_not] at h
    have := hB c hc (by unfold hel; rw [hck, hd1]; rfl) hsh k hk h.1
    unfold chg mgK mine
    rw [hd1, if_pos rfl, hsh, if_pos ⟨h.1, rfl⟩, Bool.not_eq_true', decide_eq_false_iff_not]
    intro z
    have z : lin N k = own N c k := z
    rw [← this] at z
    exact h.2 z.symm
/-- behind the return: what lines and history are -/
theorem giv_R (hN : WFa N) {c p : Nat} (hc : c < 10) : eqR 0 202 (givR N c p) (givB N c p).2 ∧ eqR 2701 3602 (givR N c p) (givB N c p).2 := by
  have hb := WFa_bec (u := N (202 + 6 * c + 1)) hN (fun k hk2 => mgK_v (p := p) hN.1.2.2.1 hc hk2)
  rw [givB_eq] at hb
  refine ⟨fun k _ h => ?_, fun k h _ => ?_⟩
  · unfold givR
    rw [srvS_o (WFa_close hb hc) (by omega)]
    exact setC_o (by omega)
  · unfold givR
    rw [srvS_o (WFa_close hb hc) (by omega)]
    exact setC_o (by omega)
theorem giv_us (hN : WFa N) {c p s : Nat} (hc : c < 10) (hs : s < 20) : us (givR N c p) s = us N s := by
  have hlo := BI_bec (T := mgK N c p) (u := N (202 + 6 * c + 1)) hN.1.2.2.1.1 hN.1.2.2.2.2.2 20 (by omega)
  rw [us_cg ((giv_R hN hc).1.sub (by omega) (by omega)) hs]
  exact us_cg hlo.1 hs
theorem giv_lin (hN : WFa N) {c p k : Nat} (hc : c < 10) (hk : k < 120) : lin (givR N c p) k = mgK N c p k := by
  rw [show lin (givR N c p) k = lin (givB N c p).2 k from (giv_R hN hc).1 _ (by omega) (by omega)]
  exact bec_lin hN.1 hk
theorem giv_lat (hN : WFa N) {c p s l : Nat} (hc : c < 10) (hs : s < 20) (hl : l < 6) (hne : lin N (6 * s + l) ≠ mgK N c p (6 * s + l)) : latU (givR N c p) s l (hn (givR N c p)) = N (202 + 6 * c + 1) := by
  have hb := WFa_bec (u := N (202 + 6 * c + 1)) hN (fun k hk2 => mgK_v (p := p) hN.1.2.2.1 hc hk2)
  rw [givB_eq] at hb
  have h1 := bec_lat (T := mgK N c p) (u := N (202 + 6 * c + 1)) hN.1 (k := 6 * s + l) (by omega) hne
  rw [givB_eq, cell_div hl, cell_mod hl] at h1
  have hh := (giv_R (p := p) hN hc).2
  rw [hn_cg hh, ← h1]
  have hlt : hn (givB N c p).2 ≤ 150 := by
    have : hn (givB N c p).2 < 151 := hb.1.2.2.2.2.2.1.2
    omega
  have key : ∀ n, n ≤ 150 → latU (givR N c p) s l n = latU (givB N c p).2 s l n := by
    intro n
    induction n with
    | zero => intro _; rw [latU, latU]
    | succ n ih =>
      intro hn1
      rw [latU, latU, mtE_cg hh (by omega), ih (by omega), hh _ (by omega) (by omega)]
  exact key _ hlt
theorem cdGive_v {c p : Nat} (hc : c < 10) (hp : p < 3) (hk : ck N c = true) : cdGive N (nI c) (nI p) = if may N c p = true then 0 else 3 := by
  unfold cdGive
  rw [isC_nI hc, hk, inR_nI (by omega) (by decide), decide_eq_true hp, cl_nI (by omega), cl_nI (by omega)]
  cases may N c p <;> rfl
/-- one policy -/
theorem p_policy (hN : WFa N) (hB : BD N) (h : De N S T M) {c p : Nat} (hc : c < 10) (hp : p < 3) (hk : ck N c = true) (n : Nat) (x2 : Int64) :
    ∃ M' S', L_L_comesBack_124 (nI c) x2 (nI (sec N c)) (nI (cntCf N c)) (nI (cntEd N c)) (nI (usr N c)) (b2 (hd N c && !sh N c)) (own N c (6 * sec N c)) (lin N (6 * sec N c)) (n + 1) 1 (nI p) M = L_L_comesBack_124 (nI c) x2 (nI (sec N c)) (nI (cntCf N c)) (nI (cntEd N c)) (nI (usr N c)) (b2 (hd N c && !sh N c)) (own N c (6 * sec N c)) (lin N (6 * sec N c)) n 1 (nI (p + 1)) M' ∧ De N S' T M' := by
  have hs := sec_lt hN.1.2.1 hc hk
  have hus := sec_us hN.1.2.1 hc hk
  have hed : cntEd N c ≤ 120 := cntN_le _ _
  have hcf := cf_le (N := N) (c := c)
  have hcop : cop N c (sec N c) = true := by unfold cop; rw [hus, An_refl]; rfl
  generalize hL : (fun M' => L_L_comesBack_124 (nI c) x2 (nI (sec N c)) (nI (cntCf N c)) (nI (cntEd N c)) (nI (usr N c)) (b2 (hd N c && !sh N c)) (own N c (6 * sec N c)) (lin N (6 * sec N c)) n 1 (nI (p + 1)) M') = F
  have hF : ∀ M', F M' = L_L_comesBack_124 (nI c) x2 (nI (sec N c)) (nI (cntCf N c)) (nI (cntEd N c)) (nI (usr N c)) (b2 (hd N c && !sh N c)) (own N c (6 * sec N c)) (lin N (6 * sec N c)) n 1 (nI (p + 1)) M' := fun M' => by rw [← hL]
  have e259 : ∀ M', B_L_comesBack_259 (L_L_comesBack_124 (nI c) x2 (nI (sec N c)) (nI (cntCf N c)) (nI (cntEd N c)) (nI (usr N c)) (b2 (hd N c && !sh N c)) (own N c (6 * sec N c)) (lin N (6 * sec N c)) n) (nI c) x2 (nI (sec N c)) (nI (cntCf N c)) (nI (cntEd N c)) (nI (usr N c)) (b2 (hd N c && !sh N c)) (own N c (6 * sec N c)) (lin N (6 * sec N c)) 1 (nI p) M' = F M' := fun M' => by
    unfold B_L_comesBack_259
    rw [nI_s1, hF]
  suffices hgoal : ∃ M' S', L_L_comesBack_124 (nI c) x2 (nI (sec N c)) (nI (cntCf N c)) (nI (cntEd N c)) (nI (usr N c)) (b2 (hd N c && !sh N c)) (own N c (6 * sec N c)) (lin N (6 * sec N c)) (n + 1) 1 (nI p) M = F M' ∧ De N S' T M' by
    obtain ⟨M', S', a, b⟩ := hgoal
    exact ⟨M', S', by rw [a, hF], b⟩
  rw [L_L_comesBack_124, if_neg (show ¬ (3 : Int32) ≤ nI p from fun z => by have z2 : nI 3 ≤ nI p := z; rw [nI_leI (by omega) (by omega)] at z2; omega), if_neg (show ¬ (1 : Int32) = 0 by decide)]
  cases hm : may N c p with
  | false =>
    have ec := cdGive_v (p := p) hc hp hk
    rw [hm, if_neg (by decide)] at ec
    have er := e_giveBack_no hN h (nI c) (nI p) (by rw [ec]; decide)
    rw [ec] at er
    have hd1 : hd N c = false := by
      cases hd1 : hd N c with
      | false => rfl
      | true => unfold may at hm; rw [hd1, Bool.true_or] at hm; cases hm
    refine ⟨M, S, ?_, h⟩
    rw [er, Option.bind_some]
    dsimp only
    rw [if_pos (show cdA 3 = -52 from rfl), if_pos (show b2 (hd N c && !sh N c) = 0 by rw [hd1]; rfl), e_checkOut hN h, Option.bind_some]
    dsimp only
    rw [aChk_3 hN hc, hk, if_pos rfl, if_pos (show nI (hd N c).toNat = 0 by rw [hd1]; rfl)]
    unfold B_L_comesBack_170
    exact e259 M
  | true =>
    obtain ⟨M1, b1, h1⟩ := e_giveBack hN h hc hp hk hm
    have h1 : De (givR N c p) (N :: S.take 3) T M1 := h1
    have hR := WFa_giv (p := p) hN hc
    have hle := giv_le hN hB (p := p) hc hk
    obtain ⟨M2, b2', h2⟩ := e_undo h1
    have hlS : (S.take 3).length ≤ 3 := by rw [List.length_take]; omega
    have husR : us (givR N c p) (sec N c) = true := by rw [giv_us hN hc hs]; exact hus
    have hlinR : aLin (givR N c p) (nI (sec N c)) 0 = mgK N c p (6 * sec N c) := by
      rw [show aLin (givR N c p) (nI (sec N c)) 0 = _ from aLin_v (l := 0) hs husR (by omega), Nat.add_zero]
      exact giv_lin hN hc (by omega)
    refine ⟨M2, S.take 3, ?_, h2⟩
    have e245 : B_L_comesBack_245 (L_L_comesBack_124 (nI c) x2 (nI (sec N c)) (nI (cntCf N c)) (nI (cntEd N c)) (nI (usr N c)) (b2 (hd N c && !sh N c)) (own N c (6 * sec N c)) (lin N (6 * sec N c)) n) (nI c) x2 (nI (sec N c)) (nI (cntCf N c)) (nI (cntEd N c)) (nI (usr N c)) (b2 (hd N c && !sh N c)) (own N c (6 * sec N c)) (lin N (6 * sec N c)) (nI p) M1 = F M2 := by
      unfold B_L_comesBack_245
      rw [b2', Option.bind_some]
      dsimp only
      rw [if_neg (show ¬ nI (S.take 3).length < 0 from nI_pos (by omega))]
      unfold B_L_comesBack_257
      exact e259 M2
    have e221 : B_L_comesBack_221 (L_L_comesBack_124 (nI c) x2 (nI (sec N c)) (nI (cntCf N c)) (nI (cntEd N c)) (nI (usr N c)) (b2 (hd N c && !sh N c)) (own N c (6 * sec N c)) (lin N (6 * sec N c)) n) (nI c) x2 (nI (sec N c)) (nI (cntCf N c)) (nI (cntEd N c)) (nI (usr N c)) (b2 (hd N c && !sh N c)) (own N c (6 * sec N c)) (lin N (6 * sec N c)) (nI p) M1 = F M2 := by
      unfold B_L_comesBack_221
      rw [e_line hR h1, hlinR, Option.bind_some]
      dsimp only
      by_cases hch : mgK N c p (6 * sec N c) = lin N (6 * sec N c)
      · rw [if_pos hch]
        exact e245
      · have hlat := giv_lat hN (p := p) (s := sec N c) (l := 0) hc hs (by omega) (by rw [Nat.add_zero]; exact fun z => hch z.symm)
        have ebl : aBla (givR N c p) (nI (sec N c)) 0 = nI (usr N c) := by
          unfold aBla isL
          rw [isS_nI hs, husR, show inR 0 6 = true by decide, if_pos (show (true && true) = true from rfl), cl_nI (by omega), show cl 0 = 0 from rfl, hlat]
          exact usr_eq hN.1.2.1 hc
        rw [if_neg hch, e_blame hR h1, ebl, Option.bind_some]
        dsimp only
        rw [if_pos rfl]
        exact e245
    have e197 : B_L_comesBack_197 (L_L_comesBack_124 (nI c) x2 (nI (sec N c)) (nI (cntCf N c)) (nI (cntEd N c)) (nI (usr N c)) (b2 (hd N c && !sh N c)) (own N c (6 * sec N c)) (lin N (6 * sec N c)) n) (nI c) x2 (nI (sec N c)) (nI (cntCf N c)) (nI (cntEd N c)) (nI (usr N c)) (b2 (hd N c && !sh N c)) (own N c (6 * sec N c)) (lin N (6 * sec N c)) (nI p) (nI (givB N c p).1) M1 = F M2 := by
      unfold B_L_comesBack_197
      cases hw : hd N c && !sh N c with
      | false =>
        rw [hw] at e221
        rw [if_pos (show b2 false = 0 from rfl)]
        exact e221
      | true =>
        rw [hw] at e221
        rw [Bool.and_eq_true, Bool.not_eq_true'] at hw
        have hmg : mgK N c p (6 * sec N c) = own N c (6 * sec N c) := by
          unfold mgK mine
          rw [show 6 * sec N c / 6 = sec N c by omega, hcop, hw.1, hw.2, if_pos rfl, if_pos ⟨rfl, rfl⟩]
        rw [if_neg (show ¬ b2 true = 0 by decide), e_line hR h1, hlinR, Option.bind_some]
        dsimp only
        rw [if_pos hmg, if_pos (by rw [giv_eq hN hB hc hk hw.1 hw.2])]
        exact e221
    rw [b1, Option.bind_some]
    dsimp only
    rw [if_neg (show ¬ nI (givB N c p).1 = -52 from fun z => by
      have z2 : (0 : Int32) ≤ nI (givB N c p).1 := nI_ge0 (by omega)
      rw [z] at z2
      exact absurd z2 (by decide)), if_neg (show ¬ nI (givB N c p).1 < 0 from nI_pos (by omega)), if_neg (show ¬ nI (cntEd N c) < nI (givB N c p).1 from fun z => by rw [nI_ltI (by omega) (by omega)] at z; omega)]
    by_cases hp0 : p = 0
    · subst hp0
      have hcf0 : nI (cntCf N c) = 0 := by
        have hz : cntCf N c = 0 := by
          unfold may at hm
          cases hd1 : hd N c with
          | true => unfold cntCf; rw [hd1]; rfl
          | false =>
            rw [hd1, Bool.false_or, Bool.and_eq_true, decide_eq_true rfl, Bool.true_and] at hm
            have hm2 := hm.2
            rw [Bool.not_eq_true', decide_eq_false_iff_not] at hm2
            omega
        rw [hz]
        rfl
      rw [if_neg (show ¬ (0 : Int32) < nI 0 by decide), if_pos hcf0]
      exact e197
    · rw [if_pos (show (0 : Int32) < nI p from by show nI 0 < nI p; rw [nI_ltI (by omega) (by omega)]; omega)]
      exact e197
theorem p_back (hN : WFa N) (hb : cl (N 0) < 134217728) (hB : BD N) (h : De N S T M) {c : Nat} (hc : c < 10) : ∃ M' S', f_L_comesBack (nI c) M = some (1, M') ∧ De N S' T M' := by
  have e0 : f_L_checkOut (nI c) 0 M = _ := e_checkOut hN h (nI c) 0
  unfold f_L_comesBack
  rw [e0, Option.bind_some]
  dsimp only
  cases hk : ck N c with
  | false =>
    have ecf : aCnf N (nI c) = -53 := by unfold aCnf; rw [isC_nI hc, hk]; rfl
    refine ⟨M, S, ?_, h⟩
    rw [aChk_no hc hk, if_neg (show ¬ (0 : Int32) ≤ -53 by decide), e_conflicts hN h, ecf, Option.bind_some]
    rfl
  | true =>
    have hed : cntEd N c ≤ 120 := cntN_le _ _
    have hcf := cf_le (N := N) (c := c)
    have hs := sec_lt hN.1.2.1 hc hk
    have hus := sec_us hN.1.2.1 hc hk
    have husr := usr_lt hN.1.2.1 hc
    obtain ⟨v, hv⟩ := p_print hN hb
    obtain ⟨M1, a1, h1⟩ := hv S T M h
    have e1 : f_L_checkOut (nI c) 1 M1 = some (nI (sec N c), M1) := (e_checkOut hN h1 (nI c) 1).trans (congrArg (fun z => some (z, M1)) (aChk_1 hN hc hk))
    have e5 : f_L_checkOut (nI c) 5 M1 = some (nI (cntEd N c), M1) := (e_checkOut hN h1 (nI c) 5).trans (congrArg (fun z => some (z, M1)) (aChk_5 hc hk))
    have e00 : f_L_checkOut (nI c) 0 M1 = some (nI (usr N c), M1) := (e_checkOut hN h1 (nI c) 0).trans (congrArg (fun z => some (z, M1)) (aChk_0 hN hc hk))
    have e3 : f_L_checkOut (nI c) 3 M1 = some (nI (hd N c).toNat, M1) := (e_checkOut hN h1 (nI c) 3).trans (congrArg (fun z => some (z, M1)) (by rw [aChk_3 hN hc, hk, if_pos rfl]))
    have e4 : f_L_checkOut (nI c) 4 M1 = some (nI (sh N c).toNat, M1) := (e_checkOut hN h1 (nI c) 4).trans (congrArg (fun z => some (z, M1)) (aChk_4 hN hc hk))
    have ecf : aCnf N (nI c) = nI (cntCf N c) := by unfold aCnf; rw [isC_nI hc, hk, if_pos rfl, cl_nI (by omega)]
    -- the three policies
    obtain ⟨M2, S2, p0, h2⟩ := p_policy hN hB h1 hc (p := 0) (by omega) hk 3 v
    obtain ⟨M3, S3, p1, h3⟩ := p_policy hN hB h2 hc (p := 1) (by omega) hk 2 v
    obtain ⟨M4, S4, p2, h4⟩ := p_policy hN hB h3 hc (p := 2) (by omega) hk 1 v
    obtain ⟨M5, d1, h5⟩ := e_discard hN h4 hc hk
    have h5 : De (discS N c) (N :: S4.take 3) T M5 := h5
    obtain ⟨M6, d2, h6⟩ := e_undo h5
    obtain ⟨M7, d3, h7⟩ := hv _ _ M6 h6
    have hlS : (S4.take 3).length ≤ 3 := by rw [List.length_take]; omega
    have hD : WFa (discS N c) := WFa_srv (WFa_close hN hc)
    have hdl : ∀ k, k < 202 → discS N c k = N k := fun k hk2 => by
      unfold discS
      rw [srvS_o (WFa_close hN hc) (by omega)]
      exact setC_o (by omega)
    have hdus : us (discS N c) (sec N c) = true := by
      unfold us
      rw [hdl _ (by omega)]
      exact hus
    have hdlin : aLin (discS N c) (nI (sec N c)) 0 = lin N (6 * sec N c) := by
      rw [show aLin (discS N c) (nI (sec N c)) 0 = _ from aLin_v (l := 0) hs hdus (by omega), Nat.add_zero]
      exact hdl _ (by omega)
    have hcopied : aCop N (nI c) (nI (sec N c)) 0 false = own N c (6 * sec N c) := by
      unfold aCop hCp isL
      rw [isC_nI hc, hk, isS_nI hs, hus, show inR 0 6 = true by decide, cl_nI (by omega), cl_nI (by omega), An_refl, if_pos (show (true && (true && true && true)) = true from rfl), if_neg (by decide), show cl 0 = 0 from rfl]
      unfold own
      rw [show 6 * sec N c / 6 = sec N c by omega, show 6 * sec N c % 6 = 0 by omega]
    have e265 : B_L_comesBack_265 (nI c) v (nI (sec N c)) (nI (cntEd N c)) (lin N (6 * sec N c)) 1 M4 = some (1, M7) := by
      unfold B_L_comesBack_265
      rw [if_neg (show ¬ (1 : Int32) = 0 by decide), d1, Option.bind_some]
      dsimp only
      rw [if_pos rfl, e_line hD h5, hdlin, Option.bind_some]
      dsimp only
      rw [if_pos rfl, d2, Option.bind_some]
      dsimp only
      rw [if_neg (show ¬ nI (S4.take 3).length < 0 from nI_pos (by omega)), d3, Option.bind_some]
      dsimp only
      rw [if_pos (lcv_0.mpr rfl)]
    have e85 : B_L_comesBack_85 (nI c) v (nI (sec N c)) (nI (cntCf N c)) (nI (cntEd N c)) (nI (usr N c)) (b2 (hd N c && !sh N c)) M1 = some (1, M7) := by
      unfold B_L_comesBack_85
      rw [show f_L_copied (nI c) (nI (sec N c)) 0 0 M1 = _ from e_copied hN h1 (nI c) (nI (sec N c)) 0 false, hcopied, Option.bind_some]
      dsimp only
      rw [e_line hN h1, show aLin N (nI (sec N c)) 0 = _ from aLin_v (l := 0) hs hus (by omega), Nat.add_zero, Option.bind_some]
      dsimp only
      rw [if_neg (show ¬ nI (cntEd N c) < nI (cntCf N c) from fun z => by rw [nI_ltI (by omega) (by omega)] at z; omega)]
      unfold B_L_comesBack_119
      have p0' : L_L_comesBack_124 (nI c) v (nI (sec N c)) (nI (cntCf N c)) (nI (cntEd N c)) (nI (usr N c)) (b2 (hd N c && !sh N c)) (own N c (6 * sec N c)) (lin N (6 * sec N c)) 4 1 0 M1 = _ := p0
      rw [p0', p1, p2, L_L_comesBack_124, if_pos (show (3 : Int32) ≤ nI (2 + 1) by decide)]
      exact e265
    refine ⟨M7, _, ?_, h7⟩
    rw [aChk_0 hN hc hk, if_pos (nI_ge0 (by omega)), a1, Option.bind_some]
    dsimp only
    rw [e1, Option.bind_some]
    dsimp only
    rw [e_conflicts hN h1, ecf, Option.bind_some]
    dsimp only
    rw [e5, Option.bind_some]
    dsimp only
    rw [e00, Option.bind_some]
    dsimp only
    rw [e3, Option.bind_some]
    dsimp only
    unfold B_L_comesBack_84
    cases hd1 : hd N c with
    | false =>
      rw [hd1] at e85
      rw [if_neg (show ¬ nI (false.toNat) = 1 by decide)]
      exact e85
    | true =>
      rw [hd1] at e85
      rw [if_pos (show nI (true.toNat) = 1 from rfl), e4, Option.bind_some]
      dsimp only
      cases hsh : sh N c with
      | false =>
        rw [hsh] at e85
        rw [if_pos (show nI (false.toNat) = 0 from rfl)]
        exact e85
      | true =>
        rw [hsh] at e85
        rw [if_neg (show ¬ nI (true.toNat) = 0 by decide)]
        exact e85
end CB
