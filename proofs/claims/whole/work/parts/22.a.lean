/-! The reference's numbers of bytes, the highest first. -/
def beB (V size : Nat) : Nat → Nat := fun q => V / 256 ^ (size - 1 - q) % 256
theorem beB_lt (V size q : Nat) : beB V size q < 256 := Nat.mod_lt _ (by decide)
/-- one numeral more, bytes below place j done -/
def LayI (V0 rx c0 size : Nat) (g : Nat → Nat) (j cr : Nat) : Prop := (∀ q, q < j → g q = beB V0 size q) ∧ (∀ q, j ≤ q → q < size → g q = beB (V0 * rx + c0) size q) ∧ cr = ((V0 % 256 ^ (size - j)) * rx + c0) / 256 ^ (size - j)
theorem LayI.start {V0 rx c0 size : Nat} {g : Nat → Nat} (h : ∀ q, q < size → g q = beB V0 size q) : LayI V0 rx c0 size g size c0 := ⟨h, fun q h1 h2 => absurd h1 (by omega), by rw [Nat.sub_self, Nat.pow_zero, Nat.mod_one, Nat.zero_mul, Nat.zero_add, Nat.div_one]⟩
theorem lay_v {V0 rx c0 B : Nat} (hB : 0 < B) : V0 / B % 256 * rx + (V0 % B * rx + c0) / B = (V0 % (B * 256) * rx + c0) / B := by
  rw [Nat.mod_mul, Nat.add_mul, Nat.mul_assoc B, Nat.add_right_comm, Nat.add_mul_div_left _ _ hB, Nat.add_comm]
theorem LayI.cr_lt {V0 rx c0 size j cr : Nat} {g : Nat → Nat} (h : LayI V0 rx c0 size g j cr) (hc : c0 < rx) : cr < rx := by
  rw [h.2.2]
  have hB : 0 < 256 ^ (size - j) := Nat.pow_pos (by decide)
  have h1 := Nat.mod_lt V0 hB
  have h2 := Nat.mul_le_mul_right rx (show V0 % 256 ^ (size - j) + 1 ≤ 256 ^ (size - j) from h1)
  rw [Nat.add_mul, Nat.one_mul] at h2
  exact Nat.div_lt_of_lt_mul (by omega)
theorem LayI.step {V0 rx c0 size j cr : Nat} {g : Nat → Nat} (h : LayI V0 rx c0 size g (j + 1) cr) (hj : j < size) : LayI V0 rx c0 size (gU g j ((g j * rx + cr) % 256)) j ((g j * rx + cr) / 256) := by
  obtain ⟨h1, h2, h3⟩ := h
  obtain ⟨B, hBe⟩ : ∃ B, B = 256 ^ (size - (j + 1)) := ⟨_, rfl⟩
  have hB : 0 < B := by rw [hBe]; exact Nat.pow_pos (by decide)
  have hB2 : 256 ^ (size - j) = B * 256 := by rw [hBe, ← Nat.pow_succ]; congr 1; omega
  have hgj : g j = V0 / B % 256 := by rw [h1 j (by omega), hBe]; unfold beB; rw [show size - 1 - j = size - (j + 1) by omega]
  have hv : g j * rx + cr = (V0 % (B * 256) * rx + c0) / B := by rw [hgj, h3, ← hBe]; exact lay_v hB
  refine ⟨fun q hq => by rw [gU_n (by omega)]; exact h1 q (by omega), fun q hq hs => ?_, ?_⟩
  · by_cases e : q = j
    · rw [e, gU_s, hv]
      unfold beB
      rw [show size - 1 - j = size - (j + 1) by omega, ← hBe]
      have e2 : V0 * rx + c0 = (V0 % (B * 256) * rx + c0) + B * (256 * (V0 / (B * 256) * rx)) := by
        conv => lhs; rw [← Nat.mod_add_div V0 (B * 256)]
        rw [Nat.add_mul, Nat.mul_assoc (B * 256), Nat.mul_assoc B 256]
        omega
      rw [e2, Nat.add_mul_div_left _ _ hB, Nat.add_mul_mod_self_left]
    · rw [gU_n e]; exact h2 q (by omega) hs
  · rw [hv, hB2, Nat.div_div_eq_div_mul]
/-- all digits the highest ones -/
theorem dgv_max {b : Nat} {f : Nat → Nat} (hb : 1 ≤ b) {j : Nat} : ∀ {m : Nat}, (∀ k, j ≤ k → k < j + m → f k = b - 1) → dgv b f j m = b ^ m - 1
  | 0, _ => rfl
  | m + 1, h => by
    show dgv b f j m + f (j + m) * b ^ m = b ^ (m + 1) - 1
    rw [dgv_max hb (fun k a c => h k a (by omega)), h (j + m) (by omega) (by omega), Nat.pow_succ, Nat.sub_mul, Nat.one_mul, Nat.mul_comm (b ^ m) b]
    have h1 := Nat.one_le_pow m b hb
    have h2 : b ^ m ≤ b * b ^ m := Nat.le_mul_of_pos_left _ hb
    omega
theorem be_lt {V size : Nat} (hV : V < 256 ^ size) : ∀ z, z ≤ size → (∀ q, q < z → beB V size q = 0) → V < 256 ^ (size - z)
  | 0, _, _ => hV
  | z + 1, hz, h => by
    have ih := be_lt hV z (by omega) (fun q hq => h q (by omega))
    have h0 : V / 256 ^ (size - 1 - z) % 256 = 0 := h z (Nat.lt_succ_self z)
    have e : size - (z + 1) = size - 1 - z := by omega
    rw [e]
    have hp : 0 < 256 ^ (size - 1 - z) := Nat.pow_pos (by decide)
    rw [show size - z = size - 1 - z + 1 by omega, Nat.pow_succ] at ih
    have hq : V / 256 ^ (size - 1 - z) < 256 := Nat.div_lt_of_lt_mul ih
    rw [Nat.mod_eq_of_lt hq] at h0
    rcases Nat.lt_or_ge V (256 ^ (size - 1 - z)) with q | q
    · exact q
    · have := Nat.div_pos q hp
      omega
theorem be_bl {V size z : Nat} (hV : V < 256 ^ size) (hz : z ≤ size) (h : ∀ q, q < z → beB V size q = 0) (he : z = size ∨ beB V size z ≠ 0) : size - z = bl V := by
  refine bl_of ⟨be_lt hV z hz h, ?_⟩
  rcases he with he | he
  · exact Or.inl (by omega)
  · rcases Nat.lt_or_ge z size with q | q
    · refine Or.inr ?_
      rcases Nat.lt_or_ge V (256 ^ (size - z - 1)) with w | w
      · refine absurd ?_ he
        unfold beB
        rw [show size - 1 - z = size - z - 1 by omega, Nat.div_eq_of_lt w]
      · exact w
    · exact Or.inl (by omega)
/-- a division by the radix, i bytes of it done -/
def TkI (Y rx size : Nat) (g : Nat → Nat) (i lt : Nat) : Prop := (∀ q, q < i → g q = beB (Y / rx) size q) ∧ (∀ q, i ≤ q → q < size → g q = beB Y size q) ∧ lt = Y / 256 ^ (size - i) % rx
theorem TkI.start {Y rx size : Nat} {g : Nat → Nat} (hY : Y < 256 ^ size) (h : ∀ q, q < size → g q = beB Y size q) : TkI Y rx size g 0 0 := ⟨fun q hq => absurd hq (Nat.not_lt_zero q), fun q _ hq => h q hq, by rw [Nat.sub_zero, Nat.div_eq_of_lt hY, Nat.zero_mod]⟩
theorem TkI.step {Y rx size i lt : Nat} {g : Nat → Nat} (h : TkI Y rx size g i lt) (hi : i < size) (hr : 0 < rx) : TkI Y rx size (gU g i ((lt * 256 + g i) / rx)) (i + 1) ((lt * 256 + g i) % rx) := by
  obtain ⟨h1, h2, h3⟩ := h
  obtain ⟨B, hBe⟩ : ∃ B, B = 256 ^ (size - (i + 1)) := ⟨_, rfl⟩
  have hgi : g i = Y / B % 256 := by rw [h2 i (Nat.le_refl i) hi, hBe]; unfold beB; rw [show size - 1 - i = size - (i + 1) by omega]
  have hlt : lt = Y / B / 256 % rx := by rw [h3, hBe, Nat.div_div_eq_div_mul, ← Nat.pow_succ]; congr 3; omega
  have hb256 : g i < 256 := by rw [hgi]; exact Nat.mod_lt _ (by decide)
  have hX : Y / B = rx * (256 * (Y / B / 256 / rx)) + (lt * 256 + g i) := by
    have e1 := Nat.div_add_mod (Y / B) 256
    have e2 := Nat.div_add_mod (Y / B / 256) rx
    rw [← hlt] at e2
    rw [hgi]
    have e3 : rx * (256 * (Y / B / 256 / rx)) = 256 * (rx * (Y / B / 256 / rx)) := Nat.mul_left_comm _ _ _
    rw [e3]
    omega
  have hlr : lt < rx := by rw [hlt]; exact Nat.mod_lt _ hr
  have hv : (lt * 256 + g i) / rx < 256 := by
    refine Nat.div_lt_of_lt_mul ?_
    have := Nat.mul_le_mul_right 256 (show lt + 1 ≤ rx from hlr)
    rw [Nat.add_mul] at this
    omega
  refine ⟨fun q hq => ?_, fun q hq hs => ?_, ?_⟩
  · by_cases e : q = i
    · rw [e, gU_s]
      unfold beB
      rw [show size - 1 - i = size - (i + 1) by omega, ← hBe, Nat.div_div_eq_div_mul, Nat.mul_comm rx B, ← Nat.div_div_eq_div_mul]
      conv => rhs; rw [hX]
      rw [Nat.mul_add_div hr, Nat.mul_add_mod, Nat.mod_eq_of_lt hv]
    · rw [gU_n e]; exact h1 q (by omega)
  · rw [gU_n (by omega)]; exact h2 q (by omega) hs
  · rw [← hBe]
    conv => rhs; rw [hX]
    rw [Nat.mul_add_mod]
theorem TkI.done {Y rx size lt : Nat} {g : Nat → Nat} (h : TkI Y rx size g size lt) : (∀ q, q < size → g q = beB (Y / rx) size q) ∧ lt = Y % rx := ⟨fun q hq => h.1 q hq, by rw [h.2.2, Nat.sub_self, Nat.pow_zero, Nat.div_one]⟩
theorem TkI.lt_lt {Y rx size i lt : Nat} {g : Nat → Nat} (h : TkI Y rx size g i lt) (hr : 0 < rx) : lt < rx := by rw [h.2.2]; exact Nat.mod_lt _ hr
theorem lor8 {a b : Nat} (h : b < 256) : a * 256 ||| b = a * 256 + b := by
  have := Nat.two_pow_add_eq_or_of_lt (i := 8) h a
  rw [Nat.mul_comm] at this
  exact this.symm
theorem Y_lt {Y rx i size : Nat} (h : Y < 256 ^ size) : Y / rx ^ i < 256 ^ size := Nat.lt_of_le_of_lt (Nat.div_le_self _ _) h
/-- the reference's way to add: its three cases -/
theorem add_neg {bk b Y k : Nat} {d : Nat → Nat} (hd : d k < b) (hb : b ≤ 65536) (h : (shV bk (d k) (Y / b ^ k % b + shC bk b Y d k)).toInt < 0) : shV bk (d k) (Y / b ^ k % b + shC bk b Y d k) + nI b = nI (shR bk b Y d k) := by
  have hs := st_le (Y := Y) (k := k) (show 0 < b by omega) (shC_le bk b Y d k)
  have hc : shC bk b Y d (k + 1) = 1 := by rw [shC_num hd hb, if_neg (fun q => by omega)]
  refine shV_c hc (fun e => ?_) (by omega) hb
  unfold shV at h
  rw [if_pos e, nI_toInt (by omega)] at h
  omega
theorem add_big {bk b Y k : Nat} {d : Nat → Nat} (hd : d k < b) (hb : b ≤ 65536) (h : (b : Int) ≤ (shV bk (d k) (Y / b ^ k % b + shC bk b Y d k)).toInt) : shV bk (d k) (Y / b ^ k % b + shC bk b Y d k) - nI b = nI (shR bk b Y d k) := by
  have hs := st_le (Y := Y) (k := k) (show 0 < b by omega) (shC_le bk b Y d k)
  have hc : shC bk b Y d (k + 1) = 1 := by rw [shC_num hd hb, if_neg (fun q => by omega)]
  refine shV_b hc (Decidable.byContradiction (fun e => ?_))
  unfold shV at h
  rw [if_neg e, pk_sub_toInt (by omega) (by omega)] at h
  omega
theorem add_in {bk b Y k : Nat} {d : Nat → Nat} (hd : d k < b) (hb : b ≤ 65536) (h1 : ¬ (shV bk (d k) (Y / b ^ k % b + shC bk b Y d k)).toInt < 0) (h2 : (shV bk (d k) (Y / b ^ k % b + shC bk b Y d k)).toInt < (b : Int)) : shV bk (d k) (Y / b ^ k % b + shC bk b Y d k) = nI (shR bk b Y d k) := shV_a (by rw [shC_num hd hb, if_pos ⟨by omega, h2⟩]; decide)
/-- so many numerals of a half are done -/
def AdI (t m bk rx Y : Nat) (d g : Nat → Nat) (i : Nat) : Prop := ∀ k, k < i → g (plc t 0 m k) = shR bk rx Y (fun q => d (plc t 0 m q)) k
theorem AdI.step {t m bk rx Y i v : Nat} {d g : Nat → Nat} (h : AdI t m bk rx Y d g i) (hi : i < m) (hv : v = shR bk rx Y (fun q => d (plc t 0 m q)) i) : AdI t m bk rx Y d (gU g (plc t 0 m i) v) (i + 1) := by
  intro k hk
  by_cases e : k = i
  · rw [e, gU_s, hv]
  · rw [gU_n (fun z => e (plc_inj (lf := t) (fr := 0) (by omega) hi z))]
    exact h k (by omega)
theorem shV_n {d st : Nat} : nI (d + st) = shV 0 d st := rfl
theorem shV_s {bk d y c : Nat} (h : bk ≠ 0) : nI d - nI y - nI c = shV bk d (y + c) := by
  unfold shV
  rw [if_neg h, ← nI_add, Int32.sub_eq_add_neg, Int32.sub_eq_add_neg, Int32.sub_eq_add_neg, Int32.neg_add, Int32.add_assoc, Int32.sub_eq_add_neg]
theorem pow_256 {b m : Nat} (hb1 : 1 ≤ b) (hb : b ≤ 65536) (hm : m ≤ 64) : b ^ m - 1 < 256 ^ 128 := by
  have h1 := Nat.pow_le_pow_left hb m
  have h2 := Nat.pow_le_pow_right (show 65536 > 0 by decide) hm
  have h3 : (65536 : Nat) ^ 64 = 256 ^ 128 := by decide
  have h4 := Nat.one_le_pow m b hb1
  omega
