/-! Rows of numerals: where the k-th lowest stands, the number that they are, a number added digit by digit. -/
def plc (lf fr ln k : Nat) : Nat := if lf = 0 then fr + ln - 1 - k else fr + k
theorem plc_in {lf fr ln k : Nat} (h : k < ln) : fr ≤ plc lf fr ln k ∧ plc lf fr ln k < fr + ln := by
  unfold plc
  split <;> omega
theorem plc_inj {lf fr ln k j : Nat} (h : k < ln) (h2 : j < ln) (e : plc lf fr ln k = plc lf fr ln j) : k = j := by
  unfold plc at e
  split at e <;> omega
theorem plc_onto {lf fr ln q : Nat} (h1 : fr ≤ q) (h2 : q < fr + ln) : ∃ k, k < ln ∧ plc lf fr ln k = q := by
  by_cases h : lf = 0
  · exact ⟨fr + ln - 1 - q, by omega, by unfold plc; rw [if_pos h]; omega⟩
  · exact ⟨q - fr, by omega, by unfold plc; rw [if_neg h]; omega⟩
/-- the number of the m digits from place j on, the lowest first -/
def dgv (b : Nat) (f : Nat → Nat) (j : Nat) : Nat → Nat
  | 0 => 0
  | m + 1 => dgv b f j m + f (j + m) * b ^ m
theorem dgv_low (b : Nat) (f : Nat → Nat) (j : Nat) : ∀ m, dgv b f j (m + 1) = dgv b f (j + 1) m * b + f j
  | 0 => by
    show 0 + f (j + 0) * b ^ 0 = 0 * b + f j
    rw [Nat.add_zero, Nat.pow_zero, Nat.mul_one, Nat.zero_mul]
  | m + 1 => by
    show dgv b f j (m + 1) + f (j + (m + 1)) * b ^ (m + 1) = (dgv b f (j + 1) m + f (j + 1 + m) * b ^ m) * b + f j
    rw [dgv_low b f j m, Nat.add_mul, Nat.pow_succ, show j + (m + 1) = j + 1 + m by omega, Nat.mul_assoc]
    omega
theorem dgv_lt {b : Nat} {f : Nat → Nat} {j : Nat} : ∀ {m : Nat}, (∀ k, j ≤ k → k < j + m → f k < b) → dgv b f j m < b ^ m
  | 0, _ => by show 0 < 1; decide
  | m + 1, h => by
    have h1 := dgv_lt (m := m) (fun k a c => h k a (by omega))
    have h2 : f (j + m) + 1 ≤ b := h (j + m) (by omega) (by omega)
    have h3 := Nat.mul_le_mul_right (b ^ m) h2
    rw [Nat.add_mul, Nat.one_mul] at h3
    show dgv b f j m + f (j + m) * b ^ m < b ^ (m + 1)
    rw [Nat.pow_succ, Nat.mul_comm (b ^ m)]
    omega
theorem dgv_congr {b : Nat} {f g : Nat → Nat} {j : Nat} : ∀ {m : Nat}, (∀ k, j ≤ k → k < j + m → f k = g k) → dgv b f j m = dgv b g j m
  | 0, _ => rfl
  | m + 1, h => by
    show dgv b f j m + f (j + m) * _ = dgv b g j m + g (j + m) * _
    rw [dgv_congr (fun k h1 h2 => h k h1 (by omega)), h (j + m) (by omega) (by omega)]
theorem pow_big {b m : Nat} (hb : b ≤ 65536) (hm : m ≤ 32) : b ^ m < 4294967296 ^ 17 := by
  have h1 := Nat.pow_le_pow_left hb m
  have h2 := Nat.pow_le_pow_right (show 65536 > 0 by decide) hm
  have h3 : (65536 : Nat) ^ 32 < 4294967296 ^ 17 := by decide
  omega
theorem pow_pred {b k : Nat} (hb : 1 ≤ b) : (b ^ k - 1) * b + (b - 1) = b ^ (k + 1) - 1 := by
  have h1 := Nat.one_le_pow k b hb
  have h2 : b ≤ b ^ k * b := Nat.le_mul_of_pos_left b (by omega)
  rw [Nat.pow_succ, Nat.sub_mul, Nat.one_mul]
  omega
/-- a number Y added to the digits d, or taken away: what is carried, what comes -/
def shC (bk b Y : Nat) (d : Nat → Nat) : Nat → Nat
  | 0 => 0
  | k + 1 => if bk = 0 then (if d k + (Y / b ^ k % b + shC bk b Y d k) < b then 0 else 1) else (if Y / b ^ k % b + shC bk b Y d k ≤ d k then 0 else 1)
def shR (bk b Y : Nat) (d : Nat → Nat) (k : Nat) : Nat := if bk = 0 then (if d k + (Y / b ^ k % b + shC bk b Y d k) < b then d k + (Y / b ^ k % b + shC bk b Y d k) else d k + (Y / b ^ k % b + shC bk b Y d k) - b) else (if Y / b ^ k % b + shC bk b Y d k ≤ d k then d k - (Y / b ^ k % b + shC bk b Y d k) else d k + b - (Y / b ^ k % b + shC bk b Y d k))
theorem shC_le (bk b Y : Nat) (d : Nat → Nat) : ∀ k, shC bk b Y d k ≤ 1
  | 0 => by show 0 ≤ 1; decide
  | k + 1 => by
    show (if _ then (if _ then 0 else 1) else (if _ then 0 else 1)) ≤ 1
    split <;> split <;> decide
theorem shR_lt {bk b Y : Nat} {d : Nat → Nat} {k : Nat} (hb : 0 < b) (hd : d k < b) : shR bk b Y d k < b := by
  have h1 := shC_le bk b Y d k
  have h2 := Nat.mod_lt (Y / b ^ k) hb
  unfold shR
  split <;> split <;> omega
theorem shC_congr {bk b Y : Nat} {d d' : Nat → Nat} : ∀ {k : Nat}, (∀ j, j < k → d j = d' j) → shC bk b Y d k = shC bk b Y d' k
  | 0, _ => rfl
  | k + 1, h => by
    show (if _ then (if d k + (_ + shC bk b Y d k) < b then 0 else 1) else (if _ + shC bk b Y d k ≤ d k then 0 else 1)) = (if _ then (if d' k + (_ + shC bk b Y d' k) < b then 0 else 1) else (if _ + shC bk b Y d' k ≤ d' k then 0 else 1))
    rw [shC_congr (fun j hj => h j (by omega)), h k (by omega)]
theorem shR_congr {bk b Y : Nat} {d d' : Nat → Nat} {k : Nat} (h : ∀ j, j ≤ k → d j = d' j) : shR bk b Y d k = shR bk b Y d' k := by
  unfold shR
  rw [shC_congr (fun j hj => h j (by omega)), h k (by omega)]
/-- so many numerals of a part of the row are done -/
def ShI (lf fr ln bk b Y : Nat) (f g : Nat → Nat) (i : Nat) : Prop := (∀ k, k < i → g (plc lf fr ln k) = shR bk b Y (fun j => f (plc lf fr ln j)) k) ∧ ∀ q, (∀ k, k < i → q ≠ plc lf fr ln k) → g q = f q
theorem ShI.start (lf fr ln bk b Y : Nat) (f : Nat → Nat) : ShI lf fr ln bk b Y f f 0 := ⟨fun _ h => absurd h (Nat.not_lt_zero _), fun _ _ => rfl⟩
theorem ShI.here {lf fr ln bk b Y i : Nat} {f g : Nat → Nat} (h : ShI lf fr ln bk b Y f g i) (hi : i < ln) : g (plc lf fr ln i) = f (plc lf fr ln i) := h.2 _ (fun k hk e => by have := plc_inj (lf := lf) (fr := fr) hi (by omega) e; omega)
theorem ShI.step {lf fr ln bk b Y i v : Nat} {f g : Nat → Nat} (h : ShI lf fr ln bk b Y f g i) (hi : i < ln) (hv : v = shR bk b Y (fun j => f (plc lf fr ln j)) i) : ShI lf fr ln bk b Y f (gU g (plc lf fr ln i) v) (i + 1) := by
  refine ⟨fun k hk => ?_, fun q hq => ?_⟩
  · by_cases e : k = i
    · rw [e, gU_s, hv]
    · rw [gU_n (fun z => e (plc_inj (lf := lf) (fr := fr) (by omega) hi z))]
      exact h.1 k (by omega)
  · rw [gU_n (hq i (Nat.lt_succ_self i))]
    exact h.2 q (fun k hk => hq k (by omega))
/-- the sum or difference as an int, and what is known of it -/
def shV (bk d st : Nat) : Int32 := if bk = 0 then nI (d + st) else nI d - nI st
theorem shV_num {bk d st bs : Nat} (hd : d < bs) (hst : st ≤ bs) (hbs : bs ≤ 65536) : (0 ≤ (shV bk d st).toInt ∧ (shV bk d st).toInt < (bs : Int)) ↔ (if bk = 0 then d + st < bs else st ≤ d) := by
  unfold shV
  by_cases h : bk = 0
  · simp only [if_pos h]
    rw [nI_toInt (by omega)]
    omega
  · simp only [if_neg h]
    rw [pk_sub_toInt (by omega) (by omega)]
    omega
theorem st_le {b Y k c : Nat} (hb : 0 < b) (hc : c ≤ 1) : Y / b ^ k % b + c ≤ b := by
  have := Nat.mod_lt (Y / b ^ k) hb
  omega
theorem shC_num {bk b Y k : Nat} {d : Nat → Nat} (hd : d k < b) (hb : b ≤ 65536) : shC bk b Y d (k + 1) = if (0 ≤ (shV bk (d k) (Y / b ^ k % b + shC bk b Y d k)).toInt ∧ (shV bk (d k) (Y / b ^ k % b + shC bk b Y d k)).toInt < (b : Int)) then 0 else 1 := by
  have hs := st_le (Y := Y) (k := k) (show 0 < b by omega) (shC_le bk b Y d k)
  have hn := shV_num (bk := bk) hd hs hb
  show (if bk = 0 then (if d k + _ < b then 0 else 1) else (if _ ≤ d k then 0 else 1)) = _
  by_cases h : bk = 0
  · rw [if_pos h] at hn ⊢
    by_cases q : d k + (Y / b ^ k % b + shC bk b Y d k) < b
    · rw [if_pos q, if_pos (hn.mpr q)]
    · rw [if_neg q, if_neg (fun z => q (hn.mp z))]
  · rw [if_neg h] at hn ⊢
    by_cases q : Y / b ^ k % b + shC bk b Y d k ≤ d k
    · rw [if_pos q, if_pos (hn.mpr q)]
    · rw [if_neg q, if_neg (fun z => q (hn.mp z))]
theorem shV_a {bk b Y k : Nat} {d : Nat → Nat} (h : shC bk b Y d (k + 1) ≠ 1) : shV bk (d k) (Y / b ^ k % b + shC bk b Y d k) = nI (shR bk b Y d k) := by
  have h' : (if bk = 0 then (if d k + (Y / b ^ k % b + shC bk b Y d k) < b then 0 else 1) else (if Y / b ^ k % b + shC bk b Y d k ≤ d k then 0 else 1)) ≠ 1 := h
  unfold shV shR
  by_cases e : bk = 0
  · simp only [if_pos e] at h' ⊢
    by_cases q : d k + (Y / b ^ k % b + shC bk b Y d k) < b
    · rw [if_pos q]
    · rw [if_neg q] at h'; exact absurd rfl h'
  · simp only [if_neg e] at h' ⊢
    by_cases q : Y / b ^ k % b + shC bk b Y d k ≤ d k
    · rw [if_pos q, pk_sub q]
    · rw [if_neg q] at h'; exact absurd rfl h'
theorem shV_b {bk b Y k : Nat} {d : Nat → Nat} (h : shC bk b Y d (k + 1) = 1) (e : bk = 0) : shV bk (d k) (Y / b ^ k % b + shC bk b Y d k) - nI b = nI (shR bk b Y d k) := by
  have h' : (if bk = 0 then (if d k + (Y / b ^ k % b + shC bk b Y d k) < b then 0 else 1) else (if Y / b ^ k % b + shC bk b Y d k ≤ d k then 0 else 1)) = 1 := h
  unfold shV shR
  simp only [if_pos e] at h' ⊢
  by_cases q : d k + (Y / b ^ k % b + shC bk b Y d k) < b
  · rw [if_pos q] at h'; exact absurd h' (by decide)
  · rw [if_neg q, pk_sub (by omega)]
theorem shV_c {bk b Y k : Nat} {d : Nat → Nat} (h : shC bk b Y d (k + 1) = 1) (e : bk ≠ 0) (hb : 0 < b) (hb2 : b ≤ 65536) : shV bk (d k) (Y / b ^ k % b + shC bk b Y d k) + nI b = nI (shR bk b Y d k) := by
  have h' : (if bk = 0 then (if d k + (Y / b ^ k % b + shC bk b Y d k) < b then 0 else 1) else (if Y / b ^ k % b + shC bk b Y d k ≤ d k then 0 else 1)) = 1 := h
  have hs := st_le (Y := Y) (k := k) hb (shC_le bk b Y d k)
  unfold shV shR
  simp only [if_neg e] at h' ⊢
  by_cases q : Y / b ^ k % b + shC bk b Y d k ≤ d k
  · rw [if_pos q] at h'; exact absurd h' (by decide)
  · rw [if_neg q]
    generalize Y / b ^ k % b + shC bk b Y d k = st at hs q ⊢
    rw [← pk_sub (show st ≤ d k + b by omega), ← nI_add, Int32.sub_eq_add_neg, Int32.sub_eq_add_neg, Int32.add_assoc, Int32.add_comm (-nI st), ← Int32.add_assoc]
