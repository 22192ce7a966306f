/-! ===== numbers, bits and loops of the printed functions ===== -/
def mI : Int32 := -1
def mII : Int32 := -2
theorem lit_m1 : (-1 : Int32) = mI := rfl
theorem lit_m2 : (-2 : Int32) = mII := rfl
theorem lit_0 : (0 : Int32) = nI 0 := rfl
theorem lit_1 : (1 : Int32) = nI 1 := rfl
theorem lit_2 : (2 : Int32) = nI 2 := rfl
theorem lit_3 : (3 : Int32) = nI 3 := rfl
theorem lit_4 : (4 : Int32) = nI 4 := rfl
theorem lit_5 : (5 : Int32) = nI 5 := rfl
theorem lit_6 : (6 : Int32) = nI 6 := rfl
theorem lit_7 : (7 : Int32) = nI 7 := rfl
theorem lit_8 : (8 : Int32) = nI 8 := rfl
theorem lit_9 : (9 : Int32) = nI 9 := rfl
theorem lit_10 : (10 : Int32) = nI 10 := rfl
theorem lit_11 : (11 : Int32) = nI 11 := rfl
theorem lit_12 : (12 : Int32) = nI 12 := rfl
theorem lit_13 : (13 : Int32) = nI 13 := rfl
theorem lit_14 : (14 : Int32) = nI 14 := rfl
theorem lit_15 : (15 : Int32) = nI 15 := rfl
theorem lit_16 : (16 : Int32) = nI 16 := rfl
theorem lit_17 : (17 : Int32) = nI 17 := rfl
theorem lit_18 : (18 : Int32) = nI 18 := rfl
theorem lit_19 : (19 : Int32) = nI 19 := rfl
theorem lit_20 : (20 : Int32) = nI 20 := rfl
theorem lit_21 : (21 : Int32) = nI 21 := rfl
theorem lit_22 : (22 : Int32) = nI 22 := rfl
theorem lit_23 : (23 : Int32) = nI 23 := rfl
theorem lit_24 : (24 : Int32) = nI 24 := rfl
theorem lit_25 : (25 : Int32) = nI 25 := rfl
theorem lit_26 : (26 : Int32) = nI 26 := rfl
theorem lit_27 : (27 : Int32) = nI 27 := rfl
theorem lit_28 : (28 : Int32) = nI 28 := rfl
theorem lit_29 : (29 : Int32) = nI 29 := rfl
theorem lit_30 : (30 : Int32) = nI 30 := rfl
theorem lit_31 : (31 : Int32) = nI 31 := rfl
theorem lit_32 : (32 : Int32) = nI 32 := rfl
theorem lit_33 : (33 : Int32) = nI 33 := rfl
theorem lit_34 : (34 : Int32) = nI 34 := rfl
theorem lit_35 : (35 : Int32) = nI 35 := rfl
theorem lit_36 : (36 : Int32) = nI 36 := rfl
theorem lit_40 : (40 : Int32) = nI 40 := rfl
theorem lit_41 : (41 : Int32) = nI 41 := rfl
theorem lit_42 : (42 : Int32) = nI 42 := rfl
theorem lit_44 : (44 : Int32) = nI 44 := rfl
theorem lit_48 : (48 : Int32) = nI 48 := rfl
theorem lit_57 : (57 : Int32) = nI 57 := rfl
theorem lit_59 : (59 : Int32) = nI 59 := rfl
theorem lit_62 : (62 : Int32) = nI 62 := rfl
theorem lit_63 : (63 : Int32) = nI 63 := rfl
theorem lit_64 : (64 : Int32) = nI 64 := rfl
theorem lit_82 : (82 : Int32) = nI 82 := rfl
theorem lit_98 : (98 : Int32) = nI 98 := rfl
theorem lit_99 : (99 : Int32) = nI 99 := rfl
theorem lit_100 : (100 : Int32) = nI 100 := rfl
theorem lit_101 : (101 : Int32) = nI 101 := rfl
theorem lit_102 : (102 : Int32) = nI 102 := rfl
theorem lit_103 : (103 : Int32) = nI 103 := rfl
theorem lit_104 : (104 : Int32) = nI 104 := rfl
theorem lit_105 : (105 : Int32) = nI 105 := rfl
theorem lit_106 : (106 : Int32) = nI 106 := rfl
theorem lit_107 : (107 : Int32) = nI 107 := rfl
theorem lit_108 : (108 : Int32) = nI 108 := rfl
theorem lit_109 : (109 : Int32) = nI 109 := rfl
theorem lit_110 : (110 : Int32) = nI 110 := rfl
theorem lit_111 : (111 : Int32) = nI 111 := rfl
theorem lit_112 : (112 : Int32) = nI 112 := rfl
theorem lit_113 : (113 : Int32) = nI 113 := rfl
theorem lit_119 : (119 : Int32) = nI 119 := rfl
theorem lit_120 : (120 : Int32) = nI 120 := rfl
theorem lit_127 : (127 : Int32) = nI 127 := rfl
theorem lit_128 : (128 : Int32) = nI 128 := rfl
theorem lit_149 : (149 : Int32) = nI 149 := rfl
theorem lit_150 : (150 : Int32) = nI 150 := rfl
theorem lit_202 : (202 : Int32) = nI 202 := rfl
theorem lit_240 : (240 : Int32) = nI 240 := rfl
theorem lit_262 : (262 : Int32) = nI 262 := rfl
theorem lit_894 : (894 : Int32) = nI 894 := rfl
theorem lit_900 : (900 : Int32) = nI 900 := rfl
theorem lit_999 : (999 : Int32) = nI 999 := rfl
theorem lit_1000 : (1000 : Int32) = nI 1000 := rfl
theorem lit_2000 : (2000 : Int32) = nI 2000 := rfl
theorem lit_2662 : (2662 : Int32) = nI 2662 := rfl
theorem lit_2663 : (2663 : Int32) = nI 2663 := rfl
theorem lit_2695 : (2695 : Int32) = nI 2695 := rfl
theorem lit_2701 : (2701 : Int32) = nI 2701 := rfl
theorem lit_2702 : (2702 : Int32) = nI 2702 := rfl
theorem lit_3602 : (3602 : Int32) = nI 3602 := rfl
theorem lit_10806 : (10806 : Int32) = nI 10806 := rfl
theorem cl_nI {n : Nat} (h : n < 2147483648) : cl (nI n) = n := nI_clamp h
theorem inb_nI {n N : Nat} (h : n < N) (hN : N < 2147483648) : (inb (nI n) N = true) = True := by
  refine eq_true ?_
  unfold inb
  exact decide_eq_true (nI_in h hN)
theorem if_true_ {α : Type} {a b : α} {d : Decidable True} : (@ite α True d a b) = a := if_pos trivial
theorem if_false_ {α : Type} {a b : α} {d : Decidable False} : (@ite α False d a b) = b := if_neg id
theorem m1_toInt : mI.toInt = -1 := by decide
theorem m2_toInt : mII.toInt = -2 := by decide
theorem nI_eq_m1 {n : Nat} (h : n < 2147483648) : (nI n = mI) = False := by
  refine eq_false fun e => ?_
  have h1 := nI_toInt (n := n) h
  rw [e, m1_toInt] at h1
  omega
theorem m1_eq_nI {n : Nat} (h : n < 2147483648) : (mI = nI n) = False := by
  refine eq_false fun e => ?_
  have h1 := nI_toInt (n := n) h
  rw [← e, m1_toInt] at h1
  omega
theorem nI_eq_m2 {n : Nat} (h : n < 2147483648) : (nI n = mII) = False := by
  refine eq_false fun e => ?_
  have h1 := nI_toInt (n := n) h
  rw [e, m2_toInt] at h1
  omega
theorem div_nI {a d : Nat} (ha : a < 2147483648) (h0 : 0 < d) (hd : d < 2147483648) : nI a / nI d = nI (a / d) := pk_div ha h0 hd
theorem rem_nI {a d : Nat} (ha : a < 2147483648) (h0 : 0 < d) (hd : d < 2147483648) : ireM (nI a) (nI d) = nI (a % d) := pk_rem ha h0 hd
/-- a truth value as the machine keeps it -/
def b2 (b : Bool) : Int32 := nI b.toNat
theorem b2_t : b2 true = nI 1 := rfl
theorem b2_f : b2 false = nI 0 := rfl
theorem b2_0 (b : Bool) : (b2 b = nI 0) = (b = false) := by cases b <;> simp [b2, nI_eq]
theorem b2_1 (b : Bool) : (b2 b = nI 1) = (b = true) := by cases b <;> simp [b2, nI_eq]
theorem ite_b2r {p : Prop} {d : Decidable p} : (@ite (Option Int32) p d (some 1) (some 0)) = some (b2 (@decide p d)) := by
  by_cases h : p
  · rw [if_pos h, decide_eq_true h]; rfl
  · rw [if_neg h, decide_eq_false h]; rfl
theorem ite_nb2r {p : Prop} {d : Decidable p} : (@ite (Option Int32) p d (some 0) (some 1)) = some (b2 (!@decide p d)) := by
  by_cases h : p
  · rw [if_pos h, decide_eq_true h]; rfl
  · rw [if_neg h, decide_eq_false h]; rfl
theorem isb_b2 (b : Bool) : (isb (b2 b) = true) = True := by cases b <;> simp [isb, b2, nI_0] <;> decide
/-- the bits of a set -/
def bt (x : Int32) (i : Nat) : Bool := x.toBitVec.getLsbD i
theorem bt_ext {x y : Int32} (h : ∀ i, i < 32 → bt x i = bt y i) : x = y := Int32.toBitVec_inj.mp (BitVec.eq_of_getLsbD_eq (fun i hi => h i hi))
theorem bt_or (x y : Int32) (i : Nat) : bt (x ||| y) i = (bt x i || bt y i) := by unfold bt; rw [Int32.toBitVec_or, BitVec.getLsbD_or]
theorem bt_and (x y : Int32) (i : Nat) : bt (x &&& y) i = (bt x i && bt y i) := by unfold bt; rw [Int32.toBitVec_and, BitVec.getLsbD_and]
theorem bt_xor (x y : Int32) (i : Nat) : bt (x ^^^ y) i = (bt x i ^^ bt y i) := by unfold bt; rw [Int32.toBitVec_xor, BitVec.getLsbD_xor]
theorem bt_m1 : ∀ i, i < 32 → bt mI i = true := by decide +kernel
theorem bt_0 (i : Nat) : bt (nI 0) i = false := BitVec.getLsbD_zero
theorem bt_big {x : Int32} {i : Nat} (h : 32 ≤ i) : bt x i = false := BitVec.getLsbD_of_ge _ _ h
theorem bt_one : ∀ c, c < 32 → ∀ i, i < 32 → bt (nI 1 <<< (nI c &&& nI 31)) i = decide (i = c) := by decide +kernel
theorem bt_not {x : Int32} {i : Nat} (h : i < 32) : bt (x ^^^ mI) i = !bt x i := by rw [bt_xor, bt_m1 i h, Bool.xor_true]
theorem ush_amt : ∀ n, n < 32 → (((nI n).toUInt32 &&& Int32.toUInt32 31).toBitVec % 32).toNat = n := by decide +kernel
theorem bt_ushr {n : Nat} (hn : n < 32) (x : Int32) (i : Nat) : bt (ushr x (nI n)) i = bt x (n + i) := by
  unfold ushr bt
  have h := ush_amt n hn
  simp only [UInt32.toBitVec_toInt32, UInt32.toBitVec_shiftRight, Int32.toBitVec_toUInt32]
  rw [BitVec.ushiftRight_eq', BitVec.getLsbD_ushiftRight, h]
theorem bt_and1 (x : Int32) : (x &&& nI 1 = nI 0) = (bt x 0 = false) := by
  refine propext ⟨fun h => ?_, fun h => bt_ext fun i hi => ?_⟩
  · have h2 : bt (x &&& nI 1) 0 = false := by rw [h]; exact bt_0 0
    rw [bt_and, show bt (nI 1) 0 = true by decide +kernel, Bool.and_true] at h2
    exact h2
  · rw [bt_and, bt_0]
    by_cases h0 : i = 0
    · subst h0; rw [h, Bool.false_and]
    · have : bt (nI 1) i = false := by
        have hh : ∀ i, i < 32 → i ≠ 0 → bt (nI 1) i = false := by decide +kernel
        exact hh i hi h0
      rw [this, Bool.and_false]
theorem ult {x : Int32} {n : Nat} (h : n < 32) : ((ushr x (nI n)) &&& nI 1 = nI 0) = (bt x n = false) := by rw [bt_and1, bt_ushr h, Nat.add_zero]
theorem bt_hasBit {x : Int32} {n : Nat} (h : n < 32) : f_X8_hasBit x (nI n) = b2 (bt x n) := by
  unfold f_X8_hasBit
  have e : ((ushr x (nI n)) &&& (1 : Int32) = 0) = (bt x n = false) := ult h
  cases hb : bt x n with
  | false => exact (if_pos (e.mpr hb)).trans rfl
  | true => exact (if_neg (fun h2 => by have h3 := e.mp h2; rw [hb] at h3; cases h3)).trans rfl
/-- two sets meet -/
theorem meet_0 (x y : Int32) : (x &&& y = nI 0) = ∀ i, i < 32 → (bt x i && bt y i) = false := by
  refine propext ⟨fun h i hi => ?_, fun h => bt_ext fun i hi => ?_⟩
  · rw [← bt_and, h, bt_0]
  · rw [bt_and, bt_0, h i hi]
/-- any, how many -/
def anyN (p : Nat → Bool) : Nat → Bool
  | 0 => false
  | n + 1 => anyN p n || p n
theorem anyN_t {p : Nat → Bool} : ∀ {n : Nat}, anyN p n = true ↔ ∃ k, k < n ∧ p k = true
  | 0 => ⟨fun h => (by cases h), fun ⟨k, h, _⟩ => absurd h (Nat.not_lt_zero k)⟩
  | n + 1 => by
    rw [anyN, Bool.or_eq_true, anyN_t (n := n)]
    constructor
    · rintro (⟨k, h1, h2⟩ | h)
      · exact ⟨k, by omega, h2⟩
      · exact ⟨n, by omega, h⟩
    · rintro ⟨k, h1, h2⟩
      by_cases hk : k = n
      · subst hk; exact Or.inr h2
      · exact Or.inl ⟨k, by omega, h2⟩
theorem anyN_f {p : Nat → Bool} {n : Nat} : anyN p n = false ↔ ∀ k, k < n → p k = false := by
  rw [← Bool.not_eq_true, anyN_t]
  constructor
  · intro h k hk
    cases hp : p k with
    | false => rfl
    | true => exact absurd ⟨k, hk, hp⟩ h
  · rintro h ⟨k, hk, hp⟩
    rw [h k hk] at hp
    cases hp
theorem anyN_c {p q : Nat → Bool} {n : Nat} (h : ∀ k, k < n → p k = q k) : anyN p n = anyN q n := by
  induction n with
  | zero => rfl
  | succ n ih => rw [anyN, anyN, ih (fun k hk => h k (by omega)), h n (by omega)]
def cntN (p : Nat → Bool) : Nat → Nat
  | 0 => 0
  | n + 1 => cntN p n + (p n).toNat
theorem cntN_c {p q : Nat → Bool} {n : Nat} (h : ∀ k, k < n → p k = q k) : cntN p n = cntN q n := by
  induction n with
  | zero => rfl
  | succ n ih => rw [cntN, cntN, ih (fun k hk => h k (by omega)), h n (by omega)]
theorem cntN_le (p : Nat → Bool) : ∀ n, cntN p n ≤ n
  | 0 => Nat.le_refl 0
  | n + 1 => by
    have h := cntN_le p n
    rw [cntN]
    cases p n <;> simp <;> omega
theorem cntN_mono {p q : Nat → Bool} : ∀ {n : Nat}, (∀ k, k < n → p k = true → q k = true) → cntN p n ≤ cntN q n
  | 0, _ => Nat.le_refl 0
  | n + 1, h => by
    have h1 := cntN_mono (n := n) (fun k hk => h k (by omega))
    have h2 := h n (by omega)
    rw [cntN, cntN]
    cases hp : p n <;> cases hq : q n <;> simp <;> first | omega | (rw [hp, hq] at h2; simp at h2)
theorem cntN_lt {p q : Nat → Bool} : ∀ {n : Nat}, (∀ k, k < n → p k = true → q k = true) → (∃ k, k < n ∧ p k = false ∧ q k = true) → cntN p n < cntN q n
  | 0, _, h => absurd h.choose_spec.1 (Nat.not_lt_zero _)
  | n + 1, h, ⟨k, h1, h2, h3⟩ => by
    have hm := cntN_mono (n := n) (fun k hk => h k (by omega))
    have hn := h n (by omega)
    rw [cntN, cntN]
    by_cases hk : k = n
    · subst hk; rw [h2, h3]; simp; omega
    · have := cntN_lt (n := n) (fun k hk => h k (by omega)) ⟨k, by omega, h2, h3⟩
      cases hp : p n <;> cases hq : q n <;> simp <;> first | omega | (rw [hp, hq] at hn; simp at hn)
/-- a loop of the printed functions, by its states -/
theorem loop {σ ρ : Type} (L : Nat → σ → ρ) (S : Nat → σ) {r : ρ} (j : Nat) (hs : ∀ n i, i < j → L (n + 1) (S i) = L n (S (i + 1))) (he : ∀ n, L (n + 1) (S j) = r) (F : Nat) (hF : j < F) : L F (S 0) = r := by
  have key : ∀ d i n, i + d = j → d < n → L n (S i) = r := by
    intro d
    induction d with
    | zero =>
      intro i n hi hn
      obtain ⟨n, rfl⟩ : ∃ k, n = k + 1 := ⟨n - 1, by omega⟩
      rw [show i = j by omega]
      exact he n
    | succ d ih =>
      intro i n hi hn
      obtain ⟨n, rfl⟩ : ∃ k, n = k + 1 := ⟨n - 1, by omega⟩
      rw [hs n i (by omega)]
      exact ih (i + 1) n (by omega) (by omega)
  exact key j 0 F (by omega) hF
theorem loop0 {σ ρ : Type} (L : Nat → σ → ρ) (S : Nat → σ) {r : ρ} (j : Nat) (s0 : σ) (h0 : S 0 = s0) (hs : ∀ n i, i < j → L (n + 1) (S i) = L n (S (i + 1))) (he : ∀ n, L (n + 1) (S j) = r) (F : Nat) (hF : j < F) : L F s0 = r := by
  rw [← h0]
  exact loop L S j hs he F hF
theorem bnd {α β : Type} {o : Option α} {v : α} (h : o = some v) (k : α → Option β) : o.bind k = k v := by rw [h]; rfl
/-- the same by what holds at its head -/
theorem loopI {σ ρ : Type} (L : Nat → σ → ρ) (I : Nat → σ → Prop) (Q : ρ → Prop) (j : Nat) (hs : ∀ n i s, i < j → I i s → Q (L (n + 1) s) ∨ ∃ s', L (n + 1) s = L n s' ∧ I (i + 1) s') (he : ∀ n s, I j s → Q (L (n + 1) s)) (F : Nat) (hF : j < F) (s0 : σ) (h0 : I 0 s0) : Q (L F s0) := by
  have key : ∀ d i n s, i + d = j → d < n → I i s → Q (L n s) := by
    intro d
    induction d with
    | zero =>
      intro i n s hi hn h
      obtain ⟨n, rfl⟩ : ∃ k, n = k + 1 := ⟨n - 1, by omega⟩
      have : i = j := by omega
      subst this
      exact he n s h
    | succ d ih =>
      intro i n s hi hn h
      obtain ⟨n, rfl⟩ : ∃ k, n = k + 1 := ⟨n - 1, by omega⟩
      rcases hs n i s (by omega) h with h1 | ⟨s', h1, h2⟩
      · exact h1
      · rw [h1]
        exact ih (i + 1) n s' (by omega) (by omega) h2
  exact key j 0 F s0 (by omega) hF h0
theorem FU_lt {j : Nat} (h : j < 1000000) : j < FU := h
/-- memories -/
theorem wr_same (M : Mem) (g j k : Nat) (v : Int32) : (wr M g j k v).1 g j = upd (M.1 g j) k v := by
  show (if g = g ∧ j = j then _ else _) = _
  rw [if_pos ⟨rfl, rfl⟩]
theorem wrs_same (M : Mem) (g j : Nat) (f : Nat → Int32) : (wrs M g j f).1 g j = f := by
  show (if g = g ∧ j = j then _ else _) = _
  rw [if_pos ⟨rfl, rfl⟩]
theorem wrs_other (M : Mem) (g j : Nat) (f : Nat → Int32) {g' j' : Nat} (h : ¬ (g' = g ∧ j' = j)) : (wrs M g j f).1 g' j' = M.1 g' j' := if_neg h
theorem wr_other (M : Mem) (g j k : Nat) (v : Int32) {g' j' : Nat} (h : ¬ (g' = g ∧ j' = j)) : (wr M g j k v).1 g' j' = M.1 g' j' := if_neg h
theorem wr_wrs (M : Mem) (g j k : Nat) (f : Nat → Int32) (v : Int32) : wr (wrs M g j f) g j k v = wrs M g j (upd f k v) := by
  unfold wr
  rw [wrs_same]
  unfold wrs
  refine Prod.ext ?_ rfl
  funext g' j'
  show (if g' = g ∧ j' = j then _ else (if g' = g ∧ j' = j then _ else _)) = (if g' = g ∧ j' = j then _ else _)
  by_cases h : g' = g ∧ j' = j
  · rw [if_pos h, if_pos h]
  · rw [if_neg h, if_neg h, if_neg h]
theorem wrs_self (M : Mem) (g j : Nat) : wrs M g j (M.1 g j) = M := by
  unfold wrs
  refine Prod.ext ?_ rfl
  funext g' j'
  show (if g' = g ∧ j' = j then _ else _) = _
  by_cases h : g' = g ∧ j' = j
  · rw [if_pos h, h.1, h.2]
  · rw [if_neg h]
theorem upd_same {f : Nat → Int32} {k : Nat} {v : Int32} : upd f k v k = v := by simp [upd]
theorem upd_other {f : Nat → Int32} {k i : Nat} {v : Int32} (h : i ≠ k) : upd f k v i = f i := by simp [upd, h]
