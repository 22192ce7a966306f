/-! ===== the tick alone is another ===== -/
section Z0
variable {N : Row} {x : Int32} {D : Dk}
theorem z_at {k : Nat} (h : 0 < k) : upd N 0 x k = N k := upd_other (by omega)
theorem z_us : us (upd N 0 x) = us N := funext fun s => by unfold us; rw [z_at (by omega)]
theorem z_pa : pa (upd N 0 x) = pa N := funext fun s => by unfold pa; rw [z_at (by omega)]
theorem z_anF : ∀ f s t, anF (upd N 0 x) f s t = anF N f s t
  | 0, _, _ => rfl
  | f + 1, s, t => by rw [anF, anF, z_pa, z_anF f]
theorem z_An : An (upd N 0 x) = An N := funext fun s => funext fun t => z_anF 20 s t
theorem z_Ov : Ov (upd N 0 x) = Ov N := funext fun s => funext fun t => by unfold Ov; rw [z_An]
theorem z_ck : ck (upd N 0 x) = ck N := funext fun s => by unfold ck; rw [z_at (by omega)]
theorem z_usr : usr (upd N 0 x) = usr N := funext fun s => by unfold usr; rw [z_at (by omega)]
theorem z_sec : sec (upd N 0 x) = sec N := funext fun s => by unfold sec; rw [z_at (by omega)]
theorem z_hd : hd (upd N 0 x) = hd N := funext fun s => by unfold hd; rw [z_at (by omega)]
theorem z_sh : sh (upd N 0 x) = sh N := funext fun s => by unfold sh; rw [z_at (by omega)]
theorem z_hel : hel (upd N 0 x) = hel N := funext fun s => by unfold hel; rw [z_ck, z_hd]
theorem z_wq : wq (upd N 0 x) = wq N := by unfold wq; rw [z_at (by omega)]
theorem z_wus : wus (upd N 0 x) = wus N := funext fun s => by unfold wus; rw [z_at (by omega)]
theorem z_wse : wse (upd N 0 x) = wse N := funext fun s => by unfold wse; rw [z_at (by omega)]
theorem z_wti : wti (upd N 0 x) = wti N := funext fun s => by unfold wti; rw [z_at (by omega)]
theorem z_wsh : wsh (upd N 0 x) = wsh N := funext fun s => by unfold wsh; rw [z_at (by omega)]
theorem z_hn : hn (upd N 0 x) = hn N := by unfold hn; rw [z_at (by omega)]
theorem z_many : manyS (upd N 0 x) = manyS N := by unfold manyS; rw [z_us]
theorem z_isV {k b : Nat} (h : 0 < k) : isV (upd N 0 x) k b = isV N k b := by unfold isV; rw [z_at h]
theorem z_WFt (h : WFt N) : WFt (upd N 0 x) := by
  obtain ⟨h1, h2, h3, h4, h5, h6, h7, h8⟩ := h
  unfold WFt
  rw [z_us, z_pa]
  refine ⟨fun s hs => by rw [z_at (by omega)]; exact h1 s hs, by rw [z_at (by omega)]; exact h2, by rw [z_at (by omega)]; exact h3, fun s a b c => by rw [z_at (by omega)]; exact h4 s a b c, h5, by rw [z_isV (by omega)]; exact h6, fun s a b c => by rw [z_isV (by omega), z_at (by omega)]; exact h7 s a b c, fun s s' a b c a' b' c' e => ?_⟩
  rw [z_at (by omega), z_at (by omega)] at e
  exact h8 s s' a b c a' b' c' e
theorem z_WFq (h : WFq N) : WFq (upd N 0 x) := by
  obtain ⟨h1, h2, h3⟩ := h
  unfold WFq
  rw [z_wq, z_wus, z_wse, z_wti, z_us]
  exact ⟨by rw [z_isV (by omega)]; exact h1, fun k hk => by rw [z_isV (by omega), z_isV (by omega), z_isV (by omega), z_isV (by omega)]; exact h2 k hk, h3⟩
theorem z_WFl (h : WFl N) : WFl (upd N 0 x) := ⟨fun k hk => by rw [z_isV (by omega)]; exact h.1 k hk, fun k hk => by rw [z_isV (by omega)]; exact h.2 k hk⟩
theorem z_WFh (h : WFh N) : WFh (upd N 0 x) := by
  unfold WFh
  rw [z_hn]
  exact ⟨by rw [z_isV (by omega)]; exact h.1, fun e he => by rw [z_isV (by omega), z_isV (by omega), z_isV (by omega)]; exact h.2 e he⟩
theorem z_WFx (h : WFx N) : WFx (upd N 0 x) := by
  unfold WFx
  rw [z_hel, z_Ov, z_sec, z_sh]
  exact h
theorem z_RDt (h : RDt D N) : RDt D (upd N 0 x) := by
  obtain ⟨a1, a2, a3, a4, a5, a6⟩ := h
  unfold RDt
  rw [z_us, z_An]
  exact ⟨fun s hs hu => by rw [z_at (by omega)]; exact a1 s hs hu, a2, fun s hs hu => by rw [z_at (by omega)]; exact a3 s hs hu, fun s l hs hl hu => by rw [z_at (by omega)]; exact a4 s l hs hl hu, a5, a6⟩
theorem z_RDs (h : RDs D N) : RDs D (upd N 0 x) := by
  obtain ⟨a1, q, q1, q2, q3, q4⟩ := h
  unfold RDs
  rw [z_us, z_many]
  exact ⟨a1, q, q1, q2, q3, fun i j hi hj h1 h2 => by rw [z_at (by omega), z_at (by omega)]; exact q4 i j hi hj h1 h2⟩
theorem z_RDc (h : RDc D N) : RDc D (upd N 0 x) := by
  unfold RDc
  rw [z_ck]
  exact ⟨h.1, fun c hc hk => by rw [z_at (by omega), z_at (by omega), z_at (by omega), z_at (by omega), z_at (by omega)]; exact h.2 c hc hk⟩
theorem z_RDk (h : RDk D N) : RDk D (upd N 0 x) := by
  unfold RDk
  rw [z_ck, z_us, z_An, z_sec]
  exact fun c s l a b d e f i => by rw [z_at (by omega), z_at (by omega)]; exact h c s l a b d e f i
theorem z_RDq (h : RDq D N) : RDq D (upd N 0 x) := by
  unfold RDq
  rw [z_wq]
  exact ⟨by rw [z_at (by omega)]; exact h.1, fun k hk => by rw [z_at (by omega), z_at (by omega), z_at (by omega), z_at (by omega)]; exact h.2 k hk⟩
theorem z_RDh (h : RDh D N) : RDh D (upd N 0 x) := by
  obtain ⟨a1, f, f1, f2, f3⟩ := h
  unfold RDh
  rw [z_hn]
  exact ⟨by rw [z_at (by omega)]; exact a1, f, f1, f2, fun e w he hw => by rw [z_at (by omega)]; exact f3 e w he hw⟩
theorem z_RD {M : Mem} {g : Nat} (h : RD (M.1 g) N) (x : Int32) : RD ((wr M g 0 6 x).1 g) (upd N 0 x) := by
  obtain ⟨a1, a2, a3, a4, a5, a6, a7⟩ := h
  have hD : ∀ j, j ≠ 0 → (wr M g 0 6 x).1 g j = M.1 g j := fun j hj => wr_other _ _ _ _ _ (by omega)
  refine ⟨RDt_D (hD 2 (by omega)) (hD 4 (by omega)) (hD 5 (by omega)) (hD 6 (by omega)) (hD 7 (by omega)) (z_RDt a1), RDs_D (hD 1 (by omega)) (hD 3 (by omega)) (z_RDs a2), RDc_D (hD 8 (by omega)) (hD 9 (by omega)) (z_RDc a3), RDk_D (hD 10 (by omega)) (hD 11 (by omega)) (z_RDk a4), RDq_D (hD 12 (by omega)) (hD 13 (by omega)) (z_RDq a5), RDh_D (hD 14 (by omega)) (hD 15 (by omega)) (z_RDh a6), ⟨?_, fun u hu => ?_⟩⟩
  · rw [wr_same, upd_same, upd_same]
  · rw [hD 16 (by omega), z_at (by omega)]
    exact a7.2 u hu
theorem z_Abs : Abs (upd N 0 x) = Abs N := by
  funext u s e c
  unfold Abs
  rw [z_hel, z_usr, z_sec, z_An]
theorem z_Can {u s : Nat} {e : Bool} : Can (upd N 0 x) u s e = Can N u s e := by
  have hB : Bar (upd N 0 x) u s e = Bar N u s e := funext fun c => by unfold Bar; rw [z_hel, z_Ov, z_sec, z_sh, z_Abs]
  unfold Can Cnt
  rw [hB, z_ck, z_Abs]
theorem z_okS {k : Nat} : okS (upd N 0 x) k = okS N k := by
  have hB : ∀ j s e, Blk (upd N 0 x) j s e = Blk N j s e := fun j s e => by unfold Blk; rw [z_Ov, z_wse, z_wsh]
  unfold okS BlkA
  rw [z_Can, z_wus, z_wse, z_wsh, anyN_c (fun j _ => hB j _ _)]
theorem z_lose (c : Nat) : loseS (upd N 0 x) c = upd (loseS N c) 0 x := by
  have key : ∀ k v, 0 < k → upd (upd N 0 x) k v = upd (upd N k v) 0 x := fun k v hk => by
    funext j
    by_cases h0 : j = 0
    · subst h0
      rw [upd_other (by omega), upd_same, upd_same]
    · rw [upd_other (f := upd N k v) h0]
      by_cases hj : j = k
      · subst hj; rw [upd_same, upd_same]
      · rw [upd_other hj, upd_other h0, upd_other hj]
  unfold loseS closeS setC
  rw [z_sh]
  by_cases h : sh N c = true
  · rw [if_pos h, if_pos h, key _ _ (by omega)]
  · rw [if_neg h, if_neg h, key _ _ (by omega)]
theorem z_pl {y : Int32} : pl (upd N 0 x) y = pl N y := by
  have : ∀ n, plF (upd N 0 x) y n = plF N y n := by
    intro n
    induction n with
    | zero => rfl
    | succ n ih => rw [plF, plF, z_at (by omega), ih]
  unfold pl
  rw [z_wq, this]
end Z0
