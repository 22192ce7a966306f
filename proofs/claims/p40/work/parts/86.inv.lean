/-! ===== what else always holds: a held exclusive copy's base is the document; the history is a chain to the lines ===== -/
def BD (N : Row) : Prop := ∀ c, c < 10 → hel N c = true → sh N c = false → ∀ k, k < 120 → cop N c (k / 6) = true → bas N c k = lin N k
def eC (N : Row) (e : Nat) : Nat := 6 * cl (N (2702 + 6 * e + 1)) + cl (N (2702 + 6 * e + 2))
/-- the value of the cell k ahead of the first of d entries from e on; v if none is of that cell -/
def nx (N : Row) (k : Nat) (v : Int32) : Nat → Nat → Int32
  | _, 0 => v
  | e, d + 1 => if eC N e = k then N (2702 + 6 * e + 3) else nx N k v (e + 1) d
def HI (N : Row) : Prop := ∀ e, e < hn N → us N (eC N e / 6) = true ∧ N (2702 + 6 * e + 3) ≠ N (2702 + 6 * e + 4) ∧ nx N (eC N e) (lin N (eC N e)) (e + 1) (hn N - (e + 1)) = N (2702 + 6 * e + 4)
def Inv (N : Row) : Prop := BD N ∧ HI N
section IV
variable {R N : Row}
theorem cop_cg (h0 : eqR 0 62 R N) (hN : WFt N) {c s : Nat} (hsec : sec R c = sec N c) (hs : s < 20) : cop R c s = cop N c s := by
  unfold cop
  rw [us_cg h0 hs, hsec]
  cases hu : us N s with
  | false => rw [Bool.false_and, Bool.false_and]
  | true => rw [An_cg h0 hN hs hu]
theorem BD_sub (hB : BD N) (h : ∀ c, c < 10 → hel R c = true → sh R c = false → hel N c = true ∧ sh N c = false ∧ ∀ k, k < 120 → cop R c (k / 6) = true → cop N c (k / 6) = true ∧ bas R c k = bas N c k ∧ lin R k = lin N k) : BD R := fun c hc h1 h2 k hk h3 => by
  obtain ⟨a1, a2, a3⟩ := h c hc h1 h2
  obtain ⟨b1, b2', b3⟩ := a3 k hk h3
  rw [b2', b3]
  exact hB c hc a1 a2 k hk b1
theorem BD_chk (h0 : eqR 0 62 R N) (hl : eqR 82 202 R N) (hk : eqR 262 2662 R N) (hN : WFt N) (h : ∀ c, c < 10 → hel R c = true → hel N c = true ∧ sec R c = sec N c ∧ sh R c = sh N c) (hB : BD N) : BD R :=
  BD_sub hB fun c hc h1 h2 => by
    obtain ⟨a1, a2, a3⟩ := h c hc h1
    refine ⟨a1, by rw [← a3]; exact h2, fun k hk2 h3 => ⟨by rw [← cop_cg h0 hN a2 (by omega)]; exact h3, ?_, ?_⟩⟩
    · unfold bas; exact hk _ (by omega) (by omega)
    · unfold lin; exact hl _ (by omega) (by omega)
theorem eC_cg (h : eqR 2701 3602 R N) {e : Nat} (he : e < 150) : eC R e = eC N e := by unfold eC; rw [h _ (by omega) (by omega), h _ (by omega) (by omega)]
theorem nx_cg (h : eqR 2701 3602 R N) {k : Nat} {v : Int32} : ∀ d e, e + d ≤ 150 → nx R k v e d = nx N k v e d := by
  intro d
  induction d with
  | zero => intro e _; rfl
  | succ d ih =>
    intro e he
    rw [nx, nx, eC_cg h (by omega), ih (e + 1) (by omega), h (2702 + 6 * e + 3) (by omega) (by omega)]
theorem eC_lt (hh : WFh N) {e : Nat} (he : e < hn N) : eC N e < 120 ∧ eC N e / 6 = cl (N (2702 + 6 * e + 1)) ∧ eC N e % 6 = cl (N (2702 + 6 * e + 2)) := by
  obtain ⟨a, b, -⟩ := hh.2 e he
  have := a.2
  have := b.2
  unfold eC
  omega
theorem HI_cg (hu : ∀ s, s < 20 → us R s = us N s) (hl : eqR 82 202 R N) (hh : eqR 2701 3602 R N) (hW : WFh N) (hI : HI N) : HI R := fun e he => by
  have hl1 : hn N < 151 := hW.1.2
  rw [hn_cg hh] at he ⊢
  obtain ⟨a1, a2, a3⟩ := hI e he
  obtain ⟨k1, -, -⟩ := eC_lt hW he
  rw [eC_cg hh (by omega), hu _ (by omega), hh _ (by omega) (by omega), hh _ (by omega) (by omega), nx_cg hh _ _ (by omega)]
  refine ⟨a1, a2, ?_⟩
  rw [show lin R (eC N e) = lin N (eC N e) from hl _ (by omega) (by omega)]
  exact a3
theorem Inv_chk (h0 : eqR 0 62 R N) (hl : eqR 82 202 R N) (hk : eqR 262 2662 R N) (hh : eqR 2701 3602 R N) (hN : WF N) (h : ∀ c, c < 10 → hel R c = true → hel N c = true ∧ sec R c = sec N c ∧ sh R c = sh N c) (hI : Inv N) : Inv R :=
  ⟨BD_chk h0 hl hk hN.1 h hI.1, HI_cg (fun s hs => us_cg h0 hs) hl hh hN.2.2.2.2.2 hI.2⟩
theorem Inv_close (hN : WF N) {c : Nat} (hc : c < 10) (hI : Inv N) : Inv (closeS N c) :=
  Inv_chk ((setC_lo _).sub (by omega) (by omega)) ((setC_lo _).sub (by omega) (by omega)) ((setC_hi hc (by omega) _).sub (by omega) (by omega)) ((setC_hi hc (by omega) _).sub (by omega) (by omega)) hN (fun c' _ h => by
    rw [closeS_hel, Bool.and_eq_true] at h
    exact ⟨h.1, closeS_sec, closeS_sh⟩) hI
theorem Inv_lose (hN : WF N) {c : Nat} (hc : c < 10) (hI : Inv N) : Inv (loseS N c) :=
  Inv_chk ((loseS_lo c).sub (by omega) (by omega)) ((loseS_lo c).sub (by omega) (by omega)) ((loseS_hi hc).sub (by omega) (by omega)) ((loseS_hi hc).sub (by omega) (by omega)) hN (fun c' _ h => by
    rw [loseS_hel, Bool.and_eq_true] at h
    exact ⟨h.1, loseS_sec, loseS_sh⟩) hI
theorem Inv_lo (h : eqR 0 2662 R N) (hh : eqR 2701 3602 R N) (hN : WF N) (hI : Inv N) : Inv R :=
  Inv_chk (h.sub (by omega) (by omega)) (h.sub (by omega) (by omega)) (h.sub (by omega) (by omega)) hh hN (fun c hc h1 => by
    have h2 : eqR 202 262 R N := h.sub (by omega) (by omega)
    exact ⟨by rw [← hel_cg h2 hc]; exact h1, sec_cg h2 hc, sh_cg h2 hc⟩) hI
theorem Inv_leave (hN : WF N) {k : Nat} (hk : k < wq N) (hI : Inv N) : Inv (leaveS N k) := Inv_lo leaveS_lo ((leaveS_hi hN.2.2.2.1 hk).sub (by omega) (by omega)) hN hI
theorem Inv_join (hN : WF N) {u s t : Nat} {e : Bool} (hw : wq N < 8) (hI : Inv N) : Inv (joinS N u s t e) := Inv_lo joinS_lo ((joinS_hi hw).sub (by omega) (by omega)) hN hI
theorem Inv_addU (hN : WF N) {a i : Nat} (hI : Inv N) : Inv (addU N a i) := Inv_lo (addU_lo.sub (by omega) (by omega)) (addU_hi.sub (by omega) (by omega)) hN hI
theorem Inv_ren (hN : WF N) {c t : Nat} (hc : c < 10) (hI : Inv N) : Inv (renS N c t) :=
  Inv_chk ((setC_lo _).sub (by omega) (by omega)) ((setC_lo _).sub (by omega) (by omega)) ((setC_hi hc (by omega) _).sub (by omega) (by omega)) ((setC_hi hc (by omega) _).sub (by omega) (by omega)) hN (fun c' hc' h => by
    have e : ∀ w, w < 6 → w ≠ 3 → renS N c t (202 + 6 * c' + w) = N (202 + 6 * c' + w) := fun w hw h3 => setC_o (by omega)
    have e0 : renS N c t (202 + 6 * c') = N (202 + 6 * c') := e 0 (by omega) (by omega)
    refine ⟨?_, ?_, ?_⟩
    · unfold hel ck hd at h ⊢
      rw [e0, e 4 (by omega) (by omega)] at h
      exact h
    · unfold sec; rw [e 2 (by omega) (by omega)]
    · unfold sh; rw [e 5 (by omega) (by omega)]) hI
/-- the tick's number alone -/
theorem Inv_upd0 {x : Int32} (hI : Inv N) : Inv (upd N 0 x) := by
  have h : ∀ k, k ≠ 0 → upd N 0 x k = N k := fun k hk => upd_other hk
  refine ⟨fun c hc h1 h2 k hk h3 => ?_, fun e he => ?_⟩
  · have e1 : cop (upd N 0 x) c (k / 6) = cop N c (k / 6) := by
      have e0 : eqR 1 62 (upd N 0 x) N := fun k h1 _ => h k (by omega)
      unfold cop
      rw [z_us, z_An, z_sec]
    rw [z_hel] at h1
    rw [z_sh] at h2
    rw [e1] at h3
    unfold bas lin
    rw [h _ (by omega), h _ (by omega)]
    exact hI.1 c hc h1 h2 k hk h3
  · have hh : eqR 2701 3602 (upd N 0 x) N := fun k h1 _ => h k (by omega)
    have e1 : ∀ e, eC (upd N 0 x) e = eC N e := fun e => by unfold eC; rw [h _ (by omega), h _ (by omega)]
    have e2 : ∀ k v d e, nx (upd N 0 x) k v e d = nx N k v e d := by
      intro k v d
      induction d with
      | zero => intro e; rfl
      | succ d ih => intro e; rw [nx, nx, e1, ih, h _ (by omega)]
    rw [hn_cg hh] at he ⊢
    rw [e1, e2, z_us, h _ (by omega), h _ (by omega)]
    unfold lin
    rw [h _ (by omega)]
    exact hI.2 e he
theorem Inv_exp (hN : WFa N) {x : Int32} : ∀ i, i ≤ 10 → Inv N → Inv (expG N x i)
  | 0, _, h => h
  | i + 1, hi, h => by
    have ih := Inv_exp hN (x := x) i (by omega) h
    rw [expG]
    split
    · exact Inv_lose (WFa_exp hN x i (by omega)).1 (by omega) ih
    · exact ih
theorem tkR_bas {u s : Nat} {e : Bool} (hB : BD N) {k : Nat} (hk : k < 120) : ∀ i, i ≤ 10 → tkR N u s e i (12 * (k / 6) + 2 * (k % 6)) = lin N k
  | 0, _ => by
    unfold tkR lin
    congr 1
    omega
  | i + 1, hi => by
    rw [tkR, show (12 * (k / 6) + 2 * (k % 6)) / 12 = k / 6 by omega]
    split
    · rename_i h
      rw [Bool.and_eq_true, Bool.and_eq_true, Bool.not_eq_true'] at h
      have := hB i (by omega) (Abs_sec h.1.1).1 h.1.2 k hk h.2
      unfold bas at this
      rw [← this]
      congr 1
      omega
    · exact tkR_bas hB hk i (by omega)
theorem Inv_grant {u s t : Nat} {e : Bool} (hN : WF N) (hs : s < 20) (hi : itsN N u s e < 10) (hI : Inv N) : Inv (grantS N u s t e) := by
  have h0 : eqR 0 202 (grantS N u s t e) N := gr_lo
  refine ⟨fun c hc h1 h2 k hk h3 => ?_, HI_cg (fun s hs => us_cg (h0.sub (by omega) (by omega)) hs) (h0.sub (by omega) (by omega)) (fun k hk _ => gr_hi hi (by omega)) hN.2.2.2.2.2 hI.2⟩
  have el : lin (grantS N u s t e) k = lin N k := h0 _ (by omega) (by omega)
  rw [el]
  by_cases hcn : c = itsN N u s e
  · subst hcn
    have := gr_cn (N := N) (u := u) (s := s) (t := t) (e := e) (x := 12 * (k / 6) + 2 * (k % 6)) (by omega)
    unfold bas
    rw [show 262 + 240 * itsN N u s e + 12 * (k / 6) + 2 * (k % 6) = 262 + 240 * itsN N u s e + (12 * (k / 6) + 2 * (k % 6)) by omega, this]
    exact tkR_bas hI.1 hk 10 (by omega)
  · have eb : bas (grantS N u s t e) c k = bas N c k := by
      have := gr_co (N := N) (u := u) (s := s) (t := t) (e := e) (c := c) (x := 12 * (k / 6) + 2 * (k % 6)) hi (by omega) hc hcn
      unfold bas
      rw [show 262 + 240 * c + 12 * (k / 6) + 2 * (k % 6) = 262 + 240 * c + (12 * (k / 6) + 2 * (k % 6)) by omega, this]
    unfold hel at h1
    rw [gr_ck hi hc, decide_eq_false hcn, Bool.false_or, gr_hdo hc hcn, Bool.and_eq_true] at h1
    rw [gr_sho hc hcn] at h2
    rw [cop_cg (h0.sub (by omega) (by omega)) hN.1 (gr_seco hc hcn) (by omega)] at h3
    have hck : ck N c = true := by
      have := h1.1
      unfold frN at this
      rw [Bool.and_eq_true] at this
      exact this.1
    rw [eb]
    exact hI.1 c hc (by unfold hel; rw [hck, h1.2]; rfl) h2 k hk h3
theorem Inv_grS (hN : WFa N) {k : Nat} (hk : k < wq N) (ho : okS N k = true) (hI : Inv N) : Inv (grS N k) := by
  obtain ⟨-, s1, s2⟩ := wse_eq hN.1.2.2.2.1 hk
  unfold okS at ho
  rw [Bool.and_eq_true] at ho
  have h1 := (its_spec (Can_its ho.1)).1
  have hi : itsN (leaveS N k) (wus N k) (wse N k) (wsh N k) < 10 := by
    rw [its_cg (leaveS_lo.sub (by omega) (by omega)) (leaveS_lo.sub (by omega) (by omega)) hN.1.1 hN.1.2.1]
    exact h1
  exact Inv_grant (WF_leave hN.1 hk) s1 hi (Inv_leave hN.1 hk hI)
theorem Inv_srvF : ∀ r k N, WFa N → k + r = wq N → Inv N → Inv (srvF r k N).2
  | 0, _, _, _, _, h => h
  | r + 1, k, N, hN, hk, h => by
    rw [srvF]
    split
    · rename_i ho
      obtain ⟨w1, w2, w3⟩ := WF_grS hN.1 hN.2 (show k < wq N by omega) ho
      exact Inv_srvF r k (grS N k) ⟨w1, w2⟩ (by omega) (Inv_grS hN (by omega) ho h)
    · exact Inv_srvF r (k + 1) N hN (by omega) h
theorem Inv_srv (hN : WFa N) (h : Inv N) : Inv (srvS N).2 := Inv_srvF _ _ _ hN (by omega) h
theorem Inv_req (hN : WFa N) {u s t : Nat} {e : Bool} (hw : wq N < 8) (hs : s < 20) (h : Inv N) : Inv (reqS N u s t e).2 := by
  unfold reqS
  split
  · rename_i ho
    unfold reqOk at ho
    rw [Bool.and_eq_true] at ho
    exact Inv_grant hN.1 hs (its_spec (Can_its ho.1)).1 h
  · exact Inv_join hN.1 hw h
theorem Inv_tick (hN : WFa N) (hb : cl (N 0) + 1 < 134217728) (h : Inv N) : Inv (tickS N) :=
  Inv_addU (WFa_srv (WFa_age hN (by omega))).1 (Inv_srv (WFa_age hN (by omega)) (Inv_upd0 (Inv_exp hN 10 (by omega) h)))
theorem Inv_pas (hN : WFa N) (h : Inv N) : ∀ n, cl (N 0) + n < 134217728 → Inv (pasS n N)
  | 0, _ => h
  | n + 1, hb => by
    rw [pasS_s]
    obtain ⟨a, b, -⟩ := WFa_pas hN n (by omega)
    exact Inv_tick a (by omega) (Inv_pas hN h n (by omega))
theorem Inv_edit (hN : WFa N) {c s l : Nat} {v : Int32} (hc : c < 10) (hs : s < 20) (hl : l < 6) (h : Inv N) : Inv (editS N c s l v) := by
  have e : ∀ k, k ≠ 262 + 240 * c + 12 * s + 2 * l + 1 → editS N c s l v k = N k := fun k hk => upd_other hk
  have e2 : eqR 0 262 (editS N c s l v) N := fun k _ _ => e k (by omega)
  have e3 : eqR 202 262 (editS N c s l v) N := e2.sub (by omega) (by omega)
  refine ⟨BD_sub h.1 fun c' hc' h1 h2 => ⟨by rw [← hel_cg e3 hc']; exact h1, by rw [← sh_cg e3 hc']; exact h2, fun k hk h3 => ⟨by rw [← cop_cg (e2.sub (by omega) (by omega)) hN.1.1 (sec_cg e3 hc') (by omega)]; exact h3, ?_, e2 _ (by omega) (by omega)⟩⟩, HI_cg (fun s hs => us_cg (e2.sub (by omega) (by omega)) hs) (e2.sub (by omega) (by omega)) (fun k _ _ => e k (by omega)) hN.1.2.2.2.2.2 h.2⟩
  unfold bas
  exact e _ (by omega)
end IV
