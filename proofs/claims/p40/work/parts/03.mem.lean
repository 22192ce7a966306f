/-! ===== the memory of all objects that the run makes, and the judgement V over it ===== -/
abbrev Mem : Type := (Nat → Nat → Nat → Int32) × (Nat → Int64)
def wrs (M : Mem) (g j : Nat) (f : Nat → Int32) : Mem := (fun g' j' => if g' = g ∧ j' = j then f else M.1 g' j', M.2)
def wr (M : Mem) (g j k : Nat) (v : Int32) : Mem := wrs M g j (upd (M.1 g j) k v)
def wrL (M : Mem) (g : Nat) (v : Int64) : Mem := (M.1, fun g' => if g' = g then v else M.2 g')
abbrev Geo : Type := va_G × (Nat → ClassId) × (Nat → Nat → Nat) × Nat
abbrev adr (G : Geo) (g j : Nat) : Nat := G.2.2.1 g j
def cl (i : Int32) : Nat := i.toNatClampNeg
def inb (i : Int32) (n : Nat) : Bool := decide (¬ (i < 0 ∨ n ≤ i.toNatClampNeg))
theorem inb_in {i : Int32} {n : Nat} (h : inb i n = true) : vp_in i n := by
  have h2 : ¬ (i < 0 ∨ n ≤ i.toNatClampNeg) := of_decide_eq_true h
  exact h2
def ushr (x y : Int32) : Int32 := (x.toUInt32 >>> (y.toUInt32 &&& Int32.toUInt32 31)).toInt32
def ireM (x y : Int32) : Int32 := x - x / y * y
def zb (x : Int32) : Int32 := vp_nar .boolean x
/-- the cells of a desk: itself, tree, its six rows, outs, its three, queue, its row, history, its row, held ticks, wanted -/
def cnD (G : Geo) (r : Nat → Int32) (g j : Nat) : va_E := match j with
  | 0 => .inr (1, [.ref (adr G g 1), .ref (adr G g 8), .ref (adr G g 12), .ref (adr G g 14), .ref (adr G g 16), .ref (adr G g 17), .int (r 6)])
  | 1 => .inr (7, [.ref (adr G g 2), .ref (adr G g 3), .ref (adr G g 4), .ref (adr G g 5), .ref (adr G g 6), .ref (adr G g 7), .int (r 6)])
  | 2 => .inl (G.2.1 0, 20, .inl r)
  | 3 => .inl (G.2.1 0, 20, .inl r)
  | 4 => .inl (G.2.1 0, 20, .inl r)
  | 5 => .inl (G.2.1 0, 120, .inl r)
  | 6 => .inl (G.2.1 0, 20, .inl r)
  | 7 => .inl (G.2.1 0, 20, .inl r)
  | 8 => .inr (0, [.ref (adr G g 9), .ref (adr G g 10), .ref (adr G g 11), .int (r 3)])
  | 9 => .inl (G.2.1 0, 50, .inl r)
  | 10 => .inl (G.2.1 0, 1200, .inl r)
  | 11 => .inl (G.2.1 0, 1200, .inl r)
  | 12 => .inr (5, [.ref (adr G g 13), .int (r 1)])
  | 13 => .inl (G.2.1 0, 32, .inl r)
  | 14 => .inr (2, [.ref (adr G g 15), .int (r 1), .int (r 2)])
  | 15 => .inl (G.2.1 0, 900, .inl r)
  | 16 => .inl (G.2.1 0, 6, .inl r)
  | _ => .inl (G.2.1 0, 120, .inl r)
/-- the desk's face, the saved states, the order text, the outline -/
def cnS (G : Geo) (r : Nat → Int32) (j : Nat) : va_E := match j with
  | 0 => .inr (8, [.ref (adr G 0 0), .ref (adr G 1 0), .ref (adr G 6 1), .ref (adr G 6 3), .ref (adr G 6 7)])
  | 1 => .inr (6, [.ref (adr G 6 2), .int (r 1)])
  | 2 => .inl (G.2.1 3, 4, .inr (.inr (.inr (.inr (fun k => some (adr G (cl (r k)) 0))))))
  | 3 => .inr (3, [.ref (adr G 6 4), .int (r 1), .ref (adr G 6 5), .ref (adr G 6 6), .int (r 4), .int (r 5), .int (r 6), .int (r 7)])
  | 4 => .inl (G.2.1 0, 120, .inl r)
  | 5 => .inl (G.2.1 0, 30, .inl r)
  | 6 => .inl (G.2.1 0, 120, .inl r)
  | 7 => .inr (4, [.ref (adr G 6 8), .int (r 1)])
  | _ => .inl (G.2.1 0, 128, .inl r)
def cn (G : Geo) (r : Nat → Int32) (w : Int64) (g j : Nat) : va_E := if g < 6 then cnD G r g j else cnS G r j
def idx : List (Nat × Nat) := (List.range 6).flatMap (fun g => (List.range 18).map (fun j => (g, j))) ++ (List.range 9).map (fun j => (6, j))
def WS (G : Geo) (M : Mem) : va_W := idx.map (fun q => (adr G q.1 q.2, cn G (M.1 q.1 q.2) (M.2 q.1) q.1 q.2))
theorem idx_nd : idx.Nodup := by decide +kernel
theorem ws_get {G : Geo} {M : Mem} {n g j : Nat} (h : idx[n]? = some (g, j)) : (WS G M)[n]? = some (adr G g j, cn G (M.1 g j) (M.2 g) g j) := by
  simp only [WS, List.getElem?_map, h, Option.map_some]
theorem ws_put {G : Geo} {M M' : Mem} {n g j : Nat} (h : idx[n]? = some (g, j)) (ho : ∀ g' j', (g', j') ∈ idx → ¬ (g' = g ∧ j' = j) → cn G (M'.1 g' j') (M'.2 g') g' j' = cn G (M.1 g' j') (M.2 g') g' j') : (WS G M).set n (adr G g j, cn G (M'.1 g j) (M'.2 g) g j) = WS G M' := by
  apply List.ext_getElem?
  intro i
  have hl : n < (WS G M).length := (List.getElem?_eq_some_iff.mp (ws_get (G := G) (M := M) h)).1
  by_cases hi : i = n
  · subst hi
    rw [List.getElem?_set_self hl, ws_get h]
  · rw [List.getElem?_set_ne (Ne.symm hi)]
    simp only [WS, List.getElem?_map]
    cases hq : idx[i]? with
    | none => rfl
    | some q =>
      obtain ⟨g', j'⟩ := q
      have hne : ¬ (g' = g ∧ j' = j) := by
        rintro ⟨rfl, rfl⟩
        have hli : i < idx.length := (List.getElem?_eq_some_iff.mp hq).1
        exact hi ((List.getElem?_inj hli idx_nd).mp (hq.trans h.symm))
      simp only [Option.map_some, ho g' j' (List.mem_of_getElem? hq) hne]
theorem ws_set {G : Geo} {M : Mem} {n g j : Nat} (f : Nat → Int32) (h : idx[n]? = some (g, j)) : (WS G M).set n (adr G g j, cn G f (M.2 g) g j) = WS G (wrs M g j f) := by
  have h1 := ws_put (G := G) (M := M) (M' := wrs M g j f) h (fun g' j' _ hne => by simp only [wrs, if_neg hne])
  have h2 : (wrs M g j f).1 g j = f := by simp [wrs]
  rw [h2] at h1
  exact h1
/-- cell (g, j) at place q is a row of n ints; a field k that is an int; one that is the cell (g2, j2) -/
def isI (G : Geo) (g j n q : Nat) : Prop := idx[q]? = some (g, j) ∧ ∀ (r : Nat → Int32) (w : Int64), cn G r w g j = .inl (G.2.1 0, n, .inl r)
def isZ (G : Geo) (g j n q : Nat) : Prop := idx[q]? = some (g, j) ∧ ∀ (r : Nat → Int32) (w : Int64), cn G r w g j = .inl (G.2.1 1, n, .inl r)
def isF (G : Geo) (g j q ci k : Nat) : Prop := idx[q]? = some (g, j) ∧ ∀ (r : Nat → Int32) (w : Int64), ∃ fs : List Value, cn G r w g j = .inr (ci, fs) ∧ fs[k]? = some (.int (r k)) ∧ ∀ v : Int32, cn G (upd r k v) w g j = .inr (ci, fs.set k (.int v))
def isR (G : Geo) (g j q ci k g2 j2 : Nat) : Prop := idx[q]? = some (g, j) ∧ ∀ (r : Nat → Int32) (w : Int64), ∃ fs : List Value, cn G r w g j = .inr (ci, fs) ∧ fs[k]? = some (.ref (adr G g2 j2))
def isO (G : Geo) (g j q ci : Nat) : Prop := idx[q]? = some (g, j) ∧ ∀ (r : Nat → Int32) (w : Int64), ∃ fs : List Value, cn G r w g j = .inr (ci, fs)
theorem isR.o {G : Geo} {g j q ci k g2 j2 : Nat} (h : isR G g j q ci k g2 j2) : isO G g j q ci := ⟨h.1, fun r w => by obtain ⟨fs, h1, -⟩ := h.2 r w; exact ⟨fs, h1⟩⟩
theorem isF.o {G : Geo} {g j q ci k : Nat} (h : isF G g j q ci k) : isO G g j q ci := ⟨h.1, fun r w => by obtain ⟨fs, h1, -⟩ := h.2 r w; exact ⟨fs, h1⟩⟩
theorem idx_dk {g j : Nat} (hg : g < 6) (hj : j < 18) : idx[18 * g + j]? = some (g, j) := by
  have h : ∀ g, g < 6 → ∀ j, j < 18 → idx[18 * g + j]? = some (g, j) := by decide +kernel
  exact h g hg j hj
theorem cn_dk {G : Geo} {r : Nat → Int32} {w : Int64} {g j : Nat} (hg : g < 6) : cn G r w g j = cnD G r g j := if_pos hg
theorem r_d0_0 {G : Geo} {g : Nat} (hg : g < 6) : isR G g 0 (18 * g + 0) 1 0 g 1 := ⟨(idx_dk hg (by decide)), fun r w => ⟨_, cn_dk hg, rfl⟩⟩
theorem r_d0_1 {G : Geo} {g : Nat} (hg : g < 6) : isR G g 0 (18 * g + 0) 1 1 g 8 := ⟨(idx_dk hg (by decide)), fun r w => ⟨_, cn_dk hg, rfl⟩⟩
theorem r_d0_2 {G : Geo} {g : Nat} (hg : g < 6) : isR G g 0 (18 * g + 0) 1 2 g 12 := ⟨(idx_dk hg (by decide)), fun r w => ⟨_, cn_dk hg, rfl⟩⟩
theorem r_d0_3 {G : Geo} {g : Nat} (hg : g < 6) : isR G g 0 (18 * g + 0) 1 3 g 14 := ⟨(idx_dk hg (by decide)), fun r w => ⟨_, cn_dk hg, rfl⟩⟩
theorem r_d0_4 {G : Geo} {g : Nat} (hg : g < 6) : isR G g 0 (18 * g + 0) 1 4 g 16 := ⟨(idx_dk hg (by decide)), fun r w => ⟨_, cn_dk hg, rfl⟩⟩
theorem r_d0_5 {G : Geo} {g : Nat} (hg : g < 6) : isR G g 0 (18 * g + 0) 1 5 g 17 := ⟨(idx_dk hg (by decide)), fun r w => ⟨_, cn_dk hg, rfl⟩⟩
theorem f_d0_6 {G : Geo} {g : Nat} (hg : g < 6) : isF G g 0 (18 * g + 0) 1 6 := ⟨(idx_dk hg (by decide)), fun r w => ⟨_, cn_dk hg, rfl, fun _ => cn_dk hg⟩⟩
theorem r_d1_0 {G : Geo} {g : Nat} (hg : g < 6) : isR G g 1 (18 * g + 1) 7 0 g 2 := ⟨(idx_dk hg (by decide)), fun r w => ⟨_, cn_dk hg, rfl⟩⟩
theorem r_d1_1 {G : Geo} {g : Nat} (hg : g < 6) : isR G g 1 (18 * g + 1) 7 1 g 3 := ⟨(idx_dk hg (by decide)), fun r w => ⟨_, cn_dk hg, rfl⟩⟩
theorem r_d1_2 {G : Geo} {g : Nat} (hg : g < 6) : isR G g 1 (18 * g + 1) 7 2 g 4 := ⟨(idx_dk hg (by decide)), fun r w => ⟨_, cn_dk hg, rfl⟩⟩
theorem r_d1_3 {G : Geo} {g : Nat} (hg : g < 6) : isR G g 1 (18 * g + 1) 7 3 g 5 := ⟨(idx_dk hg (by decide)), fun r w => ⟨_, cn_dk hg, rfl⟩⟩
theorem r_d1_4 {G : Geo} {g : Nat} (hg : g < 6) : isR G g 1 (18 * g + 1) 7 4 g 6 := ⟨(idx_dk hg (by decide)), fun r w => ⟨_, cn_dk hg, rfl⟩⟩
theorem r_d1_5 {G : Geo} {g : Nat} (hg : g < 6) : isR G g 1 (18 * g + 1) 7 5 g 7 := ⟨(idx_dk hg (by decide)), fun r w => ⟨_, cn_dk hg, rfl⟩⟩
theorem f_d1_6 {G : Geo} {g : Nat} (hg : g < 6) : isF G g 1 (18 * g + 1) 7 6 := ⟨(idx_dk hg (by decide)), fun r w => ⟨_, cn_dk hg, rfl, fun _ => cn_dk hg⟩⟩
theorem a_d2 {G : Geo} {g : Nat} (hg : g < 6) : isI G g 2 20 (18 * g + 2) := ⟨(idx_dk hg (by decide)), fun r w => cn_dk hg⟩
theorem a_d3 {G : Geo} {g : Nat} (hg : g < 6) : isI G g 3 20 (18 * g + 3) := ⟨(idx_dk hg (by decide)), fun r w => cn_dk hg⟩
theorem a_d4 {G : Geo} {g : Nat} (hg : g < 6) : isI G g 4 20 (18 * g + 4) := ⟨(idx_dk hg (by decide)), fun r w => cn_dk hg⟩
theorem a_d5 {G : Geo} {g : Nat} (hg : g < 6) : isI G g 5 120 (18 * g + 5) := ⟨(idx_dk hg (by decide)), fun r w => cn_dk hg⟩
theorem a_d6 {G : Geo} {g : Nat} (hg : g < 6) : isI G g 6 20 (18 * g + 6) := ⟨(idx_dk hg (by decide)), fun r w => cn_dk hg⟩
theorem a_d7 {G : Geo} {g : Nat} (hg : g < 6) : isI G g 7 20 (18 * g + 7) := ⟨(idx_dk hg (by decide)), fun r w => cn_dk hg⟩
theorem r_d8_0 {G : Geo} {g : Nat} (hg : g < 6) : isR G g 8 (18 * g + 8) 0 0 g 9 := ⟨(idx_dk hg (by decide)), fun r w => ⟨_, cn_dk hg, rfl⟩⟩
theorem r_d8_1 {G : Geo} {g : Nat} (hg : g < 6) : isR G g 8 (18 * g + 8) 0 1 g 10 := ⟨(idx_dk hg (by decide)), fun r w => ⟨_, cn_dk hg, rfl⟩⟩
theorem r_d8_2 {G : Geo} {g : Nat} (hg : g < 6) : isR G g 8 (18 * g + 8) 0 2 g 11 := ⟨(idx_dk hg (by decide)), fun r w => ⟨_, cn_dk hg, rfl⟩⟩
theorem f_d8_3 {G : Geo} {g : Nat} (hg : g < 6) : isF G g 8 (18 * g + 8) 0 3 := ⟨(idx_dk hg (by decide)), fun r w => ⟨_, cn_dk hg, rfl, fun _ => cn_dk hg⟩⟩
theorem a_d9 {G : Geo} {g : Nat} (hg : g < 6) : isI G g 9 50 (18 * g + 9) := ⟨(idx_dk hg (by decide)), fun r w => cn_dk hg⟩
theorem a_d10 {G : Geo} {g : Nat} (hg : g < 6) : isI G g 10 1200 (18 * g + 10) := ⟨(idx_dk hg (by decide)), fun r w => cn_dk hg⟩
theorem a_d11 {G : Geo} {g : Nat} (hg : g < 6) : isI G g 11 1200 (18 * g + 11) := ⟨(idx_dk hg (by decide)), fun r w => cn_dk hg⟩
theorem r_d12_0 {G : Geo} {g : Nat} (hg : g < 6) : isR G g 12 (18 * g + 12) 5 0 g 13 := ⟨(idx_dk hg (by decide)), fun r w => ⟨_, cn_dk hg, rfl⟩⟩
theorem f_d12_1 {G : Geo} {g : Nat} (hg : g < 6) : isF G g 12 (18 * g + 12) 5 1 := ⟨(idx_dk hg (by decide)), fun r w => ⟨_, cn_dk hg, rfl, fun _ => cn_dk hg⟩⟩
theorem a_d13 {G : Geo} {g : Nat} (hg : g < 6) : isI G g 13 32 (18 * g + 13) := ⟨(idx_dk hg (by decide)), fun r w => cn_dk hg⟩
theorem r_d14_0 {G : Geo} {g : Nat} (hg : g < 6) : isR G g 14 (18 * g + 14) 2 0 g 15 := ⟨(idx_dk hg (by decide)), fun r w => ⟨_, cn_dk hg, rfl⟩⟩
theorem f_d14_1 {G : Geo} {g : Nat} (hg : g < 6) : isF G g 14 (18 * g + 14) 2 1 := ⟨(idx_dk hg (by decide)), fun r w => ⟨_, cn_dk hg, rfl, fun _ => cn_dk hg⟩⟩
theorem f_d14_2 {G : Geo} {g : Nat} (hg : g < 6) : isF G g 14 (18 * g + 14) 2 2 := ⟨(idx_dk hg (by decide)), fun r w => ⟨_, cn_dk hg, rfl, fun _ => cn_dk hg⟩⟩
theorem a_d15 {G : Geo} {g : Nat} (hg : g < 6) : isI G g 15 900 (18 * g + 15) := ⟨(idx_dk hg (by decide)), fun r w => cn_dk hg⟩
theorem a_d16 {G : Geo} {g : Nat} (hg : g < 6) : isI G g 16 6 (18 * g + 16) := ⟨(idx_dk hg (by decide)), fun r w => cn_dk hg⟩
theorem a_d17 {G : Geo} {g : Nat} (hg : g < 6) : isI G g 17 120 (18 * g + 17) := ⟨(idx_dk hg (by decide)), fun r w => cn_dk hg⟩
theorem r_s0_0 {G : Geo} : isR G 6 0 108 8 0 0 0 := ⟨(by decide +kernel), fun r w => ⟨_, rfl, rfl⟩⟩
theorem r_s0_1 {G : Geo} : isR G 6 0 108 8 1 1 0 := ⟨(by decide +kernel), fun r w => ⟨_, rfl, rfl⟩⟩
theorem r_s0_2 {G : Geo} : isR G 6 0 108 8 2 6 1 := ⟨(by decide +kernel), fun r w => ⟨_, rfl, rfl⟩⟩
theorem r_s0_3 {G : Geo} : isR G 6 0 108 8 3 6 3 := ⟨(by decide +kernel), fun r w => ⟨_, rfl, rfl⟩⟩
theorem r_s0_4 {G : Geo} : isR G 6 0 108 8 4 6 7 := ⟨(by decide +kernel), fun r w => ⟨_, rfl, rfl⟩⟩
theorem r_s1_0 {G : Geo} : isR G 6 1 109 6 0 6 2 := ⟨(by decide +kernel), fun r w => ⟨_, rfl, rfl⟩⟩
theorem f_s1_1 {G : Geo} : isF G 6 1 109 6 1 := ⟨(by decide +kernel), fun r w => ⟨_, rfl, rfl, fun _ => rfl⟩⟩
theorem r_s3_0 {G : Geo} : isR G 6 3 111 3 0 6 4 := ⟨(by decide +kernel), fun r w => ⟨_, rfl, rfl⟩⟩
theorem f_s3_1 {G : Geo} : isF G 6 3 111 3 1 := ⟨(by decide +kernel), fun r w => ⟨_, rfl, rfl, fun _ => rfl⟩⟩
theorem r_s3_2 {G : Geo} : isR G 6 3 111 3 2 6 5 := ⟨(by decide +kernel), fun r w => ⟨_, rfl, rfl⟩⟩
theorem r_s3_3 {G : Geo} : isR G 6 3 111 3 3 6 6 := ⟨(by decide +kernel), fun r w => ⟨_, rfl, rfl⟩⟩
theorem f_s3_4 {G : Geo} : isF G 6 3 111 3 4 := ⟨(by decide +kernel), fun r w => ⟨_, rfl, rfl, fun _ => rfl⟩⟩
theorem f_s3_5 {G : Geo} : isF G 6 3 111 3 5 := ⟨(by decide +kernel), fun r w => ⟨_, rfl, rfl, fun _ => rfl⟩⟩
theorem f_s3_6 {G : Geo} : isF G 6 3 111 3 6 := ⟨(by decide +kernel), fun r w => ⟨_, rfl, rfl, fun _ => rfl⟩⟩
theorem f_s3_7 {G : Geo} : isF G 6 3 111 3 7 := ⟨(by decide +kernel), fun r w => ⟨_, rfl, rfl, fun _ => rfl⟩⟩
theorem a_s4 {G : Geo} : isI G 6 4 120 112 := ⟨(by decide +kernel), fun r w => rfl⟩
theorem a_s5 {G : Geo} : isI G 6 5 30 113 := ⟨(by decide +kernel), fun r w => rfl⟩
theorem a_s6 {G : Geo} : isI G 6 6 120 114 := ⟨(by decide +kernel), fun r w => rfl⟩
theorem r_s7_0 {G : Geo} : isR G 6 7 115 4 0 6 8 := ⟨(by decide +kernel), fun r w => ⟨_, rfl, rfl⟩⟩
theorem f_s7_1 {G : Geo} : isF G 6 7 115 4 1 := ⟨(by decide +kernel), fun r w => ⟨_, rfl, rfl, fun _ => rfl⟩⟩
theorem a_s8 {G : Geo} : isI G 6 8 128 116 := ⟨(by decide +kernel), fun r w => rfl⟩
