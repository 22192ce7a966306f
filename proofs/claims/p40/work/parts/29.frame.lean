/-! ===== copies of whole states ===== -/
def updJ (D : Dk) (j : Nat) (f : Nat → Int32) : Dk := fun j' => if j' = j then f else D j'
theorem updJ_s (D : Dk) (j : Nat) (f : Nat → Int32) : updJ D j f j = f := if_pos rfl
theorem updJ_o (D : Dk) {j j' : Nat} (f : Nat → Int32) (h : j' ≠ j) : updJ D j f j' = D j' := if_neg h
theorem wrs_g (M : Mem) (g j : Nat) (f : Nat → Int32) : (wrs M g j f).1 g = updJ (M.1 g) j f := by
  funext j'
  unfold wrs updJ
  by_cases h : j' = j
  · simp [h]
  · simp [h]
theorem wrs_ng (M : Mem) {g g' : Nat} (j : Nat) (f : Nat → Int32) (h : g' ≠ g) : (wrs M g j f).1 g' = M.1 g' := by
  funext j'
  exact wrs_other _ _ _ _ (fun e => h e.1)
theorem wr_g (M : Mem) (g j k : Nat) (v : Int32) : (wr M g j k v).1 g = updJ (M.1 g) j (upd (M.1 g j) k v) := wrs_g _ _ _ _
theorem wr_ng (M : Mem) {g g' : Nat} (j k : Nat) (v : Int32) (h : g' ≠ g) : (wr M g j k v).1 g' = M.1 g' := wrs_ng _ _ _ h
theorem wrs_2 (M : Mem) (g j : Nat) (f : Nat → Int32) : (wrs M g j f).2 = M.2 := rfl
theorem wr_2 (M : Mem) (g j k : Nat) (v : Int32) : (wr M g j k v).2 = M.2 := rfl
/-- nothing but the group g has changed -/
def Fr (g : Nat) (M M' : Mem) : Prop := (∀ g', g' ≠ g → M'.1 g' = M.1 g') ∧ M'.2 = M.2
theorem Fr.rf {g : Nat} {M : Mem} : Fr g M M := ⟨fun _ _ => rfl, rfl⟩
theorem Fr.tr {g : Nat} {M M' M'' : Mem} (h1 : Fr g M M') (h2 : Fr g M' M'') : Fr g M M'' := ⟨fun g' hg => (h2.1 g' hg).trans (h1.1 g' hg), h2.2.trans h1.2⟩
theorem Fr_wrs (M : Mem) (g j : Nat) (f : Nat → Int32) : Fr g M (wrs M g j f) := ⟨fun _ h => wrs_ng _ _ _ h, rfl⟩
theorem Fr_wr (M : Mem) (g j k : Nat) (v : Int32) : Fr g M (wr M g j k v) := ⟨fun _ h => wr_ng _ _ _ _ h, rfl⟩
theorem c_copyRow (M : Mem) (g g2 j n : Nat) (hn : n < 2147483648) : f_X8_copyRow g2 j n g j n M = some (wrs M g j (fun k => if k < n then M.1 g2 j k else M.1 g j k)) := by
  have e0 : cl (0 : Int32) = 0 := by decide
  have e1 : imin (Int32.ofNat n) (Int32.ofNat n) = nI n := by unfold imin; rw [if_neg (Int32.lt_irrefl)]; rfl
  have hk : cpk 0 0 (nI n) n n = true := by
    unfold cpk
    rw [e0, cl_nI hn]
    refine decide_eq_true ⟨by decide, by decide, ?_, by omega, by omega⟩
    intro h
    have h2 : nI n < nI 0 := h
    rw [nI_ltI (by omega) (by omega)] at h2
    omega
  unfold f_X8_copyRow
  rw [e1, if_pos hk, e0, cl_nI hn]
  congr 1
  congr 1
  funext k
  unfold va_cpy
  by_cases h : k < n
  · rw [if_pos h, if_pos (by omega), Nat.zero_add, Nat.sub_zero]
  · rw [if_neg h, if_neg (by omega)]
/-- a desk's cells, as far as they count, are another's -/
def eqD (D D' : Dk) : Prop := D' 0 6 = D 0 6 ∧ D' 1 6 = D 1 6 ∧ (∀ k, k < 20 → D' 2 k = D 2 k) ∧ (∀ k, k < 20 → D' 3 k = D 3 k) ∧ (∀ k, k < 20 → D' 4 k = D 4 k) ∧ (∀ k, k < 120 → D' 5 k = D 5 k) ∧ (∀ k, k < 20 → D' 6 k = D 6 k) ∧ (∀ k, k < 20 → D' 7 k = D 7 k) ∧ D' 8 3 = D 8 3 ∧ (∀ k, k < 50 → D' 9 k = D 9 k) ∧ (∀ k, k < 1200 → D' 10 k = D 10 k) ∧ (∀ k, k < 1200 → D' 11 k = D 11 k) ∧ D' 12 1 = D 12 1 ∧ (∀ k, k < 32 → D' 13 k = D 13 k) ∧ D' 14 1 = D 14 1 ∧ D' 14 2 = D 14 2 ∧ (∀ k, k < 900 → D' 15 k = D 15 k) ∧ (∀ k, k < 6 → D' 16 k = D 16 k)
theorem c_copyFrom (M : Mem) {g g2 : Nat} (hg : g2 ≠ g) : ∃ M', f_X1_copyFrom g g2 M = some M' ∧ eqD (M.1 g2) (M'.1 g) ∧ Fr g M M' := by
  unfold f_X1_copyFrom f_X7_copyFrom f_X0_copyFrom f_X5_copyFrom f_X2_copyFrom
  simp only [c_copyRow _ _ _ _ 20 (by decide), c_copyRow _ _ _ _ 120 (by decide), c_copyRow _ _ _ _ 50 (by decide), c_copyRow _ _ _ _ 1200 (by decide), c_copyRow _ _ _ _ 32 (by decide), c_copyRow _ _ _ _ 900 (by decide), c_copyRow _ _ _ _ 6 (by decide), Option.bind_some]
  refine ⟨_, rfl, ?_, ?_⟩
  · simp only [wr_g, wrs_g, wr_ng _ _ _ _ hg, wrs_ng _ _ _ hg, wr_same, wrs_same]
    unfold eqD updJ
    refine ⟨?_, ?_, ?_, ?_, ?_, ?_, ?_, ?_, ?_, ?_, ?_, ?_, ?_, ?_, ?_, ?_, ?_, ?_⟩
    all_goals first | (intro k hk; simp [upd, hk]) | simp [upd]
  · refine Fr.tr (Fr.tr (Fr.tr (Fr.tr (Fr.tr (Fr.tr (Fr.tr (Fr.tr (Fr.tr (Fr.tr (Fr.tr (Fr.tr (Fr.tr (Fr.tr (Fr.tr (Fr.tr (Fr.tr ?_ (Fr_wrs _ _ _ _)) (Fr_wrs _ _ _ _)) (Fr_wrs _ _ _ _)) (Fr_wrs _ _ _ _)) (Fr_wrs _ _ _ _)) (Fr_wr _ _ _ _ _)) (Fr_wrs _ _ _ _)) (Fr_wrs _ _ _ _)) (Fr_wrs _ _ _ _)) (Fr_wr _ _ _ _ _)) (Fr_wrs _ _ _ _)) (Fr_wr _ _ _ _ _)) (Fr_wrs _ _ _ _)) (Fr_wr _ _ _ _ _)) (Fr_wr _ _ _ _ _)) (Fr_wrs _ _ _ _)) (Fr_wr _ _ _ _ _)
    exact Fr_wrs _ _ _ _
theorem RD_eq {D D' : Dk} {N : Row} (h : eqD D D') (hc : WFc N) (hq : WFq N) (hh : WFh N) (hr : RD D N) : RD D' N := by
  obtain ⟨a0, a1, a2, a3, a4, a5, a6, a7, a8, a9, a10, a11, a12, a13, a14, a15, a16, a17⟩ := h
  obtain ⟨ht, hs, hcc, hk, hqq, hhh, hu⟩ := hr
  refine ⟨⟨fun s h1 h2 => ?_, fun s h1 h2 => ?_, fun s h1 h2 => ?_, fun s l h1 h2 h3 => ?_, fun t h1 s h2 => ?_, fun s h1 t h2 => ?_⟩, ⟨?_, ?_⟩, ⟨fun c h1 => ?_, fun c h1 h2 => ?_⟩, fun c s l h1 h2 h3 h4 h5 h6 => ?_, ⟨?_, fun k h1 => ?_⟩, ⟨?_, ?_⟩, ⟨?_, fun u h1 => ?_⟩⟩
  · rw [a2 s h1]; exact ht.1 s h1 h2
  · rw [a2 s h1]; exact ht.2.1 s h1 h2
  · rw [a4 s h1]; exact ht.2.2.1 s h1 h2
  · rw [a5 _ (by omega)]; exact ht.2.2.2.1 s l h1 h2 h3
  · rw [a6 t h1]; exact ht.2.2.2.2.1 t h1 s h2
  · rw [a7 s h1]; exact ht.2.2.2.2.2 s h1 t h2
  · rw [a1]; exact hs.1
  · obtain ⟨q, q1, q2, q3, q4⟩ := hs.2
    have hm := manyS_le N
    exact ⟨q, fun i hi => by rw [a3 i (by omega)]; exact q1 i hi, q2, q3, q4⟩
  · rw [a8]; exact hcc.1 c h1
  · rw [a9 _ (by omega), a9 _ (by omega), a9 _ (by omega), a9 _ (by omega), a9 _ (by omega)]; exact hcc.2 c h1 h2
  · rw [a10 _ (by omega), a11 _ (by omega)]; exact hk c s l h1 h2 h3 h4 h5 h6
  · rw [a12]; exact hqq.1
  · have := wq_le hq
    rw [a13 _ (by omega), a13 _ (by omega), a13 _ (by omega), a13 _ (by omega)]; exact hqq.2 k h1
  · rw [a15]; exact hhh.1
  · obtain ⟨f, f1, f2, f3⟩ := hhh.2
    exact ⟨f, f1, by rw [a14]; exact f2, fun e w h1 h2 => by rw [a16 _ (by omega)]; exact f3 e w h1 h2⟩
  · rw [a0]; exact hu.1
  · rw [a17 u h1]; exact hu.2 u h1
