/-! What the reference refuses; the bytes of a long. -/
theorem in_nat {v a b : Nat} (h1 : a ≤ v) (h2 : v ≤ b) (h : b < 9223372036854775808) : ¬ lN v < lN a ∧ ¬ lN b < lN v := ⟨fun q => by have := (pk_lLT (by omega) (by omega)).mp q; omega, fun q => by have := (pk_lLT (by omega) (by omega)).mp q; omega⟩
theorem in_raw {x : Int32} {a b : Int64} {i j : Int} (ha : a.toInt = i) (hb : b.toInt = j) (h : x.toInt < i ∨ j < x.toInt) : x.toInt64 < a ∨ b < x.toInt64 := by
  rw [Int64.lt_iff_toInt_lt, Int64.lt_iff_toInt_lt, Int32.toInt_toInt64, ha, hb]
  exact h
theorem in_less {n : Nat} (h : n ≤ 65536) : (nI n - nI 1).toInt64.toInt = (n : Int) - 1 := by
  rw [Int32.toInt_toInt64, pk_sub_toInt (by omega) (by decide)]
  rfl
/-- the k-th byte of a long -/
def byt (V k : Nat) : Nat := V / 2 ^ (8 * k) % 256
theorem byt_lt (V k : Nat) : byt V k < 256 := Nat.mod_lt _ (by decide)
theorem byt_s {V k : Nat} (hV : V < 18446744073709551616) (hk : k < 8) : lN V >>> ((nI (8 * k)).toInt64 &&& 63) &&& lN 255 = lN (byt V k) := by
  rw [gz_lcnt (8 * k) (by omega)]
  apply Int64.toBitVec_inj.mp
  show (lN V).toBitVec.sshiftRight ((lN (8 * k)).toBitVec.smod 64).toNat &&& BitVec.ofNat 64 255 = BitVec.ofNat 64 (byt V k)
  rw [show (lN (8 * k)).toBitVec = BitVec.ofNat 64 (8 * k) from rfl, gz_lsm (8 * k) (by omega), BitVec.toNat_ofNat, Nat.mod_eq_of_lt (a := 8 * k) (by omega), show (lN V).toBitVec = BitVec.ofNat 64 V from rfl]
  apply BitVec.eq_of_getLsbD_eq
  intro i hi
  rw [BitVec.getLsbD_and, BitVec.getLsbD_sshiftRight, BitVec.getLsbD_ofNat, BitVec.getLsbD_ofNat, BitVec.getLsbD_ofNat]
  unfold byt
  rw [show (256 : Nat) = 2 ^ 8 from rfl, Nat.testBit_mod_two_pow, Nat.testBit_div_two_pow, show (255 : Nat) = 2 ^ 8 - 1 from rfl, Nat.testBit_two_pow_sub_one]
  by_cases h : i < 8
  · have h1 : 8 * k + i < 64 := by omega
    have h2 : ¬ 64 ≤ i := by omega
    have h3 : i + 8 * k < 64 := by omega
    simp [h, h1, hi, h2, h3, Nat.add_comm]
  · simp [h]
def tyF (V by' n : Nat) (b : Nat → Nat) : Nat → Nat := fun q => if by' ≤ q ∧ q < by' + n then byt V (n - 1 - (q - by')) else b q
/-- so many bytes typed: j are still to come -/
theorem ty_0 {V by' n : Nat} {b : Nat → Nat} : ∀ q, q < 64 → b q = if by' ≤ q ∧ q < by' + (n - n) then byt V (n - 1 - (q - by')) else b q := fun q _ => by rw [if_neg (by omega)]
theorem ty_s {V by' n j x : Nat} {b g : Nat → Nat} (hj : j < n) (h : ∀ q, q < 64 → g q = if by' ≤ q ∧ q < by' + (n - (j + 1)) then byt V (n - 1 - (q - by')) else b q) (hx : x = byt V j) : ∀ q, q < 64 → gU g (by' + (n - (j + 1))) x q = if by' ≤ q ∧ q < by' + (n - j) then byt V (n - 1 - (q - by')) else b q := by
  intro q hq
  by_cases e : q = by' + (n - (j + 1))
  · rw [e, gU_s, if_pos (by omega), hx]
    congr 1
    omega
  · rw [gU_n e, h q hq]
    by_cases z : by' ≤ q ∧ q < by' + (n - (j + 1))
    · rw [if_pos z, if_pos (by omega)]
    · rw [if_neg z, if_neg (by omega)]
theorem ty_e {V by' n : Nat} {b g : Nat → Nat} (h : ∀ q, q < 64 → g q = if by' ≤ q ∧ q < by' + (n - 0) then byt V (n - 1 - (q - by')) else b q) : ∀ q, q < 64 → g q = tyF V by' n b q := h
theorem le_iff {bs n rw' : Nat} (h : rw' = bs ^ n) : 1000000 ≤ rw' ↔ 1000000 ≤ bs ^ n := by rw [h]
theorem le_big {bs i n : Nat} (hb : 1 ≤ bs) (h : 1000000 ≤ bs ^ i) (hi : i ≤ n) : 1000000 ≤ bs ^ i ↔ 1000000 ≤ bs ^ n := ⟨fun _ => Nat.le_trans h (Nat.pow_le_pow_right hb hi), fun _ => h⟩
