/-! ===== blame, lineAt, revert ===== -/
section KH
variable {k : Nat} {M : Mem}
/-- as okc_g, where the desk too has another scratch row -/
theorem SR_keep17 {k : Nat} {M M' : Mem} (h : SR k M) (h0 : ∀ j, j ≠ 17 → M'.1 0 j = M.1 0 j) (hg : ∀ g, 2 ≤ g → g < 6 → M'.1 g = M.1 g) (h6 : ∀ j, j < 5 → M'.1 6 j = M.1 6 j) (hr : eqR 0 3602 (M'.1 7 1) (M.1 7 1)) (h2 : M'.1 7 2 = M.1 7 2) (h4 : M'.1 7 4 = M.1 7 4) (h03 : M'.1 7 0 3 = M.1 7 0 3) (h06 : M'.1 7 0 6 = M.1 7 0 6) : SR (k + 1) M' := by
  obtain ⟨t, r, x, n, P, a, b, c, d⟩ := h
  exact ⟨(TB_cg hr t).up (by omega), RD_cgA hr t.1.1 (RD_17 h0 r), TX_cg x (by rw [h6 3 (by omega)]) (h6 4 (by omega)) h06 h4, n, P, a, fun i hi => (b i hi).up (by omega), SVC_cg c (h6 1 (by omega)) (h6 2 (by omega)) hg, SVM_cg d h03 h2⟩
theorem okc_q17 {k : Nat} {M M' : Mem} {fL fM : Mem → Option (Int32 × Mem)} (h : SR k M) {a : Int32} (hL : fL M = some (nI 0, wrL M' 8 a.toInt64)) (h0 : ∀ j, j ≠ 17 → M'.1 0 j = M.1 0 j) (hg : ∀ g, g ≠ 0 → M'.1 g = M.1 g) (hM : ∀ M1 : Mem, M1.1 7 = M.1 7 → fM M1 = some (a, wr M1 7 0 4 (nI 0))) : okc k M fL fM := by
  have h7 : (wrL M' 8 a.toInt64).1 7 = M.1 7 := by rw [wrL_1]; exact hg 7 (by omega)
  refine ⟨nI 0, _, a, wr (wrL M' 8 a.toInt64) 7 0 4 (nI 0), hL, hM _ h7, by rw [wr_same, upd_same], fun _ => ?_, SR_keep17 h (fun j hj => ?_) (fun g h1 h2 => ?_) (fun j hj => ?_) ?_ ?_ ?_ ?_ ?_⟩
  · rw [wr_2]; exact wrL_8 M' _
  · rw [wr_ng _ _ _ _ (by omega), wrL_1]; exact h0 j hj
  · rw [wr_ng _ _ _ _ (by omega), wrL_1]; exact hg g (by omega)
  · rw [wr_ng _ _ _ _ (by omega), wrL_1, hg 6 (by omega)]
  · rw [wr_other _ _ _ _ _ (by omega), h7]; exact eqR.rf
  · rw [wr_other _ _ _ _ _ (by omega), h7]
  · rw [wr_other _ _ _ _ _ (by omega), h7]
  · rw [wr_same, upd_other (by omega), h7]
  · rw [wr_same, upd_other (by omega), h7]
theorem N0_within {N : Row} (hN : WFa N) : N 0 = nI (cl (N 0)) ∧ cl (N 0) < 1073741824 := hN.1.2.1.1
end KH
