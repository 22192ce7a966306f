/-! ===== the outline: the call ===== -/
section KO
variable {k : Nat} {M : Mem}
theorem m_outlines {R0 : Mem} {N : Row} (hN : WFt N) (h1 : R0.1 7 1 = N) (hH : HC N) : ∃ R', f_X9_outlines R0 = some R' ∧ BR R0 R' (outT N 21 0) := by
  have h80 := out_80 hN hH 21
  have hbr0 : BR R0 (wr R0 7 0 15 (nI 0)) [] := ⟨by rw [wr_same, upd_same]; rfl, fun i hi => absurd hi (Nat.not_lt_zero _), fun j h1 h2 h3 h4 => by rw [wr_other _ _ _ _ _ (by omega)], fun i hi => by rw [wr_same, upd_other hi], fun g hg => by rw [wr_ng _ _ _ _ hg], by rw [wr_2]⟩
  have hbr := (hbr0.stk (j := 11) (Or.inl rfl) 0 (nI 0)).stk (j := 12) (Or.inr rfl) 0 (nI 0)
  generalize hR1 : wr (wr (wr R0 7 0 15 (nI 0)) 7 11 0 (nI 0)) 7 12 0 (nI 0) = R1 at hbr
  have v11 : R1.1 7 11 0 = nI 0 := by rw [← hR1, wr_other _ _ _ _ _ (by omega), wr_same, upd_same]
  have v12 : R1.1 7 12 0 = nI 0 := by rw [← hR1, wr_same, upd_same]
  obtain ⟨R2, n1, n2, n3, n4⟩ := br_num (s := 0) hbr (by omega) (by have := (numL_len 0).2; show 0 + (numL 0).length ≤ 160; omega)
  obtain ⟨R3, u1, u2, u3⟩ := m_outT hN h1 hH 21 0 1 (by omega) (us_0 hN) (dp_0 hN) rfl R2 [] n2 (by rw [n3]; exact v11) (by rw [n4]; exact v12) (by show 0 + (outT N 21 0).length ≤ 128; omega)
  have u1 : BR R0 R3 (outT N 21 0) := u1
  have u3 : ∀ r, OR (outT N 21 0) 0 R3 r → OR ([] ++ numL 0) 1 R2 r := u3
  refine ⟨R3, ?_, u1⟩
  have hend : OR (outT N 21 0) 0 R3 (some R3) := fun n hn => by
    obtain ⟨m, rfl⟩ : ∃ m, n = m + 1 := ⟨n - 1, by omega⟩
    rw [L_X9_outlines_26, if_pos (show nI 0 ≤ 0 from Int32.le_refl _)]
  have hFU : 300 < FU := FU_lt (by omega)
  have := u3 _ hend FU (by omega)
  have e0 : cl (0 : Int32) = 0 := cl_nI (n := 0) (by omega)
  have hR1' : wr (wr (wr R0 7 0 15 (0 : Int32)) 7 11 0 (0 : Int32)) 7 12 0 (0 : Int32) = R1 := hR1
  unfold f_X9_outlines
  rw [e0, hR1', show f_X9_putsNumber 0 R1 = some R2 from n1, Option.bind_some]
  exact (congrArg (fun z => L_X9_outlines_26 FU z R2) (show (1 : Int32) = nI 1 from rfl)).trans this
end KO
