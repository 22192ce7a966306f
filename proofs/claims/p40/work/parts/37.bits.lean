/-! ===== the number of bits of a set ===== -/
theorem and16 {a b c d : Nat} (hb : b < 16) (hd : d < 16) : (16 * a + b) &&& (16 * c + d) = 16 * (a &&& c) + (b &&& d) := by
  have h : (b &&& d) < 2 ^ 4 := Nat.and_lt_two_pow _ hd
  have hb4 : b < 2 ^ 4 := hb
  have hd4 : d < 2 ^ 4 := hd
  apply Nat.eq_of_testBit_eq
  intro j
  rw [show (16 : Nat) = 2 ^ 4 from rfl, Nat.testBit_and, Nat.testBit_two_pow_mul_add _ hb4, Nat.testBit_two_pow_mul_add _ hd4, Nat.testBit_two_pow_mul_add _ h]
  by_cases hj : j < 4
  · rw [if_pos hj, if_pos hj, if_pos hj, Nat.testBit_and]
  · rw [if_neg hj, if_neg hj, if_neg hj, Nat.testBit_and]
def M5 : Nat → Nat
  | 0 => 0
  | k + 1 => 16 * M5 k + 5
def M3 : Nat → Nat
  | 0 => 0
  | k + 1 => 16 * M3 k + 3
def G1 (k v : Nat) : Nat := v - ((v / 2) &&& M5 k)
def G2 (k y : Nat) : Nat := (y &&& M3 k) + ((y / 4) &&& M3 k)
def pcn (b : Nat) : Nat := b % 2 + b / 2 % 2 + b / 4 % 2 + b / 8 % 2
theorem gb : ∀ b, b < 16 → G2 1 (G1 1 b) = pcn b := by decide +kernel
theorem gb5 : ∀ x, x < 2 → ∀ b, b < 16 → (8 * x + b / 2) &&& 5 = (b / 2) &&& 5 := by decide +kernel
theorem gb3 : ∀ x, x < 4 → ∀ z, z < 4 → (4 * x + z) &&& 3 = z &&& 3 := by decide +kernel
theorem gstep {k a b : Nat} (hb : b < 16) : G2 (k + 1) (G1 (k + 1) (16 * a + b)) = 16 * G2 k (G1 k a) + pcn b := by
  have e1 : (16 * a + b) / 2 = 16 * (a / 2) + (8 * (a % 2) + b / 2) := by omega
  have e2 : ((16 * a + b) / 2) &&& M5 (k + 1) = 16 * ((a / 2) &&& M5 k) + ((b / 2) &&& 5) := by
    rw [e1, M5, and16 (by omega) (by omega), gb5 _ (by omega) b hb]
  have h1 : ((a / 2) &&& M5 k) ≤ a / 2 := Nat.and_le_left
  have h2 : ((b / 2) &&& 5) ≤ b / 2 := Nat.and_le_left
  have e3 : G1 (k + 1) (16 * a + b) = 16 * G1 k a + G1 1 b := by
    unfold G1
    rw [e2]
    show _ = 16 * (a - ((a / 2) &&& M5 k)) + (b - ((b / 2) &&& 5))
    omega
  have h3 : G1 1 b < 16 := by unfold G1; omega
  rw [e3, ← gb b hb]
  generalize G1 k a = y
  generalize G1 1 b = z at h3 ⊢
  have e4 : (16 * y + z) / 4 = 16 * (y / 4) + (4 * (y % 4) + z / 4) := by omega
  unfold G2
  rw [e4]
  show ((16 * y + z) &&& (16 * M3 k + 3)) + ((16 * (y / 4) + (4 * (y % 4) + z / 4)) &&& (16 * M3 k + 3)) = 16 * ((y &&& M3 k) + ((y / 4) &&& M3 k)) + ((z &&& 3) + ((z / 4) &&& 3))
  rw [and16 h3 (by omega), and16 (by omega) (by omega), gb3 _ (by omega) _ (by omega)]
  omega
theorem g0 : ∀ k, G2 k (G1 k 0) = 0 := fun k => by simp [G1, G2]
theorem g8 {a b c d e : Nat} (ha : a < 16) (hb : b < 16) (hc : c < 16) (hd : d < 16) (he : e < 16) : G2 8 (G1 8 (16 * (16 * (16 * (16 * e + d) + c) + b) + a)) = 16 * (16 * (16 * (16 * pcn e + pcn d) + pcn c) + pcn b) + pcn a := by
  rw [gstep ha, gstep hb, gstep hc, gstep hd, show e = 16 * 0 + e by omega, gstep he, g0]
  simp
def E8 (z : Int32) : Int32 := (((((z + ushr z 4) &&& (252645135 : Int32)) + ushr ((z + ushr z 4) &&& (252645135 : Int32)) 8) + ushr (((z + ushr z 4) &&& (252645135 : Int32)) + ushr ((z + ushr z 4) &&& (252645135 : Int32)) 8) 16) &&& (63 : Int32))
theorem E8_v : ∀ a, a < 5 → ∀ b, b < 5 → ∀ c, c < 5 → ∀ d, d < 5 → ∀ e, e < 5 → E8 (nI (16 * (16 * (16 * (16 * e + d) + c) + b) + a)) = nI (a + b + c + d + e) := by decide +kernel
theorem pcn_le {b : Nat} : pcn b < 5 := by unfold pcn; omega
theorem nI_and {a b : Nat} (ha : a < 2 ^ 32) (hb : b < 2 ^ 32) : nI a &&& nI b = nI (a &&& b) := by
  apply Int32.toBitVec_inj.mp
  apply BitVec.eq_of_toNat_eq
  rw [Int32.toBitVec_and, BitVec.toNat_and, pk_tn ha, pk_tn hb, pk_tn (Nat.lt_of_le_of_lt Nat.and_le_left ha)]
theorem bitCount_v {v : Nat} (hv : v < 1048576) : f_J6_bitCount_0f7a4 (nI v) = nI (pcn (v % 16) + pcn (v / 16 % 16) + pcn (v / 256 % 16) + pcn (v / 4096 % 16) + pcn (v / 65536)) := by
  have u1 : ∀ {n : Nat}, n < 2 ^ 32 → ushr (nI n) (1 : Int32) = nI (n / 2) := fun h => pk_ushrN h 1 1 (by decide)
  have u2 : ∀ {n : Nat}, n < 2 ^ 32 → ushr (nI n) (2 : Int32) = nI (n / 4) := fun h => pk_ushrN h 2 2 (by decide)
  have m5 : (1431655765 : Int32) = nI (M5 8) := by decide +kernel
  have m3 : (858993459 : Int32) = nI (M3 8) := by decide +kernel
  have b5 : M5 8 < 2 ^ 32 := by decide
  have b3 : M3 8 < 2 ^ 32 := by decide
  have hle : ((v / 2) &&& M5 8) ≤ v := Nat.le_trans Nat.and_le_left (Nat.div_le_self _ _)
  have e1 : nI v - ((ushr (nI v) (1 : Int32)) &&& (1431655765 : Int32)) = nI (G1 8 v) := by
    rw [u1 (by omega), m5, nI_and (by omega) b5, pk_sub hle]
    rfl
  have h1 : G1 8 v < 2 ^ 32 := by unfold G1; omega
  have e2 : ((nI v - ((ushr (nI v) (1 : Int32)) &&& (1431655765 : Int32))) &&& (858993459 : Int32)) + ((ushr (nI v - ((ushr (nI v) (1 : Int32)) &&& (1431655765 : Int32))) (2 : Int32)) &&& (858993459 : Int32)) = nI (G2 8 (G1 8 v)) := by
    rw [e1, u2 h1, m3, nI_and h1 b3, nI_and (by omega) b3, nI_add]
    rfl
  show E8 (((nI v - ((ushr (nI v) (1 : Int32)) &&& (1431655765 : Int32))) &&& (858993459 : Int32)) + ((ushr (nI v - ((ushr (nI v) (1 : Int32)) &&& (1431655765 : Int32))) (2 : Int32)) &&& (858993459 : Int32))) = _
  rw [e2]
  have e3 : v = 16 * (16 * (16 * (16 * (v / 65536) + v / 4096 % 16) + v / 256 % 16) + v / 16 % 16) + v % 16 := by omega
  have e4 := g8 (a := v % 16) (b := v / 16 % 16) (c := v / 256 % 16) (d := v / 4096 % 16) (e := v / 65536) (by omega) (by omega) (by omega) (by omega) (by omega)
  rw [← e3] at e4
  rw [e4]
  exact E8_v _ pcn_le _ pcn_le _ pcn_le _ pcn_le _ pcn_le
theorem bt_v {v i : Nat} (hi : i < 32) : (bt (nI v) i).toNat = v / 2 ^ i % 2 := by
  have : bt (nI v) i = v.testBit i := by
    show (BitVec.ofNat 32 v).getLsbD i = _
    rw [BitVec.getLsbD_ofNat, decide_eq_true hi, Bool.true_and]
  rw [this, Nat.testBit_eq_decide_div_mod_eq]
  by_cases h : v / 2 ^ i % 2 = 1
  · rw [decide_eq_true h, h]; rfl
  · rw [decide_eq_false h]
    show 0 = _
    omega
theorem blk_v {w : Nat} : w % 2 + w / 2 % 2 + w / 4 % 2 + w / 8 % 2 = pcn (w % 16) := by
  unfold pcn
  omega
theorem cnt_v {v : Nat} (hv : v < 1048576) : cntN (bt (nI v)) 20 = pcn (v % 16) + pcn (v / 16 % 16) + pcn (v / 256 % 16) + pcn (v / 4096 % 16) + pcn (v / 65536) := by
  have b0 : (bt (nI v) 0).toNat + (bt (nI v) 1).toNat + (bt (nI v) 2).toNat + (bt (nI v) 3).toNat = pcn (v % 16) := by
    rw [bt_v (by omega), bt_v (by omega), bt_v (by omega), bt_v (by omega), ← blk_v]
    simp only [Nat.reducePow, Nat.div_one]
  have b1 : (bt (nI v) 4).toNat + (bt (nI v) 5).toNat + (bt (nI v) 6).toNat + (bt (nI v) 7).toNat = pcn (v / 16 % 16) := by
    rw [bt_v (by omega), bt_v (by omega), bt_v (by omega), bt_v (by omega), ← blk_v]
    simp only [Nat.reducePow, Nat.div_div_eq_div_mul, Nat.reduceMul]
  have b2 : (bt (nI v) 8).toNat + (bt (nI v) 9).toNat + (bt (nI v) 10).toNat + (bt (nI v) 11).toNat = pcn (v / 256 % 16) := by
    rw [bt_v (by omega), bt_v (by omega), bt_v (by omega), bt_v (by omega), ← blk_v]
    simp only [Nat.reducePow, Nat.div_div_eq_div_mul, Nat.reduceMul]
  have b3 : (bt (nI v) 12).toNat + (bt (nI v) 13).toNat + (bt (nI v) 14).toNat + (bt (nI v) 15).toNat = pcn (v / 4096 % 16) := by
    rw [bt_v (by omega), bt_v (by omega), bt_v (by omega), bt_v (by omega), ← blk_v]
    simp only [Nat.reducePow, Nat.div_div_eq_div_mul, Nat.reduceMul]
  have b4 : (bt (nI v) 16).toNat + (bt (nI v) 17).toNat + (bt (nI v) 18).toNat + (bt (nI v) 19).toNat = pcn (v / 65536) := by
    rw [show v / 65536 = v / 65536 % 16 by omega]
    rw [bt_v (by omega), bt_v (by omega), bt_v (by omega), bt_v (by omega), ← blk_v]
    simp only [Nat.reducePow, Nat.div_div_eq_div_mul, Nat.reduceMul]
  rw [← b0, ← b1, ← b2, ← b3, ← b4]
  simp only [cntN, Nat.zero_add, Nat.add_assoc]
theorem bitCount_bt {x : Int32} (h : ∀ i, 20 ≤ i → i < 32 → bt x i = false) : f_J6_bitCount_0f7a4 x = nI (cntN (bt x) 20) := by
  have e : x = nI x.toBitVec.toNat := by
    apply Int32.toBitVec_inj.mp
    apply BitVec.eq_of_toNat_eq
    rw [pk_tn x.toBitVec.isLt]
  have hv : x.toBitVec.toNat < 2 ^ 20 := by
    refine Nat.lt_pow_two_of_testBit _ (fun i hi => ?_)
    by_cases h32 : i < 32
    · exact h i hi h32
    · exact BitVec.testBit_toNat x.toBitVec ▸ BitVec.getLsbD_of_ge _ _ (by omega)
  rw [e, bitCount_v hv, cnt_v hv]
