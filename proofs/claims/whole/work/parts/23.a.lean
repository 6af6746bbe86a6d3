/-! The reference's message and stream. -/
theorem nb_small {iw N b q : Nat} (hN : N < 256 ^ b) (hq : q + b < 4 * iw) : nbF iw N q = 0 := by
  unfold nbF
  have h := Nat.pow_le_pow_right (show 256 > 0 by decide) (show b ≤ 4 * iw - 1 - q by omega)
  rw [Nat.div_eq_of_lt (by omega)]
theorem ms_lo {tb tk : Nat → Nat} {iw b i N ts q : Nat} (hN : N < 256 ^ b) (htk : ∀ j, j < ts → tk j = tb j) (ht0 : ∀ j, ts ≤ j → j < 64 → tb j = 0) (hts : ts ≤ 32) (hq : q + b + 1 < 4 * iw) : (if q < ts then tk q else 0) = msF tb iw b i N q := by
  unfold msF
  rw [nb_small hN (by omega), Nat.zero_or, if_neg (show ¬ q + b + 1 = 4 * iw by omega), Nat.or_zero]
  unfold tzF
  by_cases h : q < ts
  · rw [if_pos h, if_pos (by omega), htk q h]
  · rw [if_neg h]
    split
    · exact (ht0 q (by omega) (by omega)).symm
    · rfl
theorem tz_hi {tb : Nat → Nat} {ts q : Nat} (ht0 : ∀ j, ts ≤ j → j < 64 → tb j = 0) (hq : ts ≤ q) : tzF tb q = 0 := by
  unfold tzF
  split
  · exact ht0 q hq (by omega)
  · rfl
theorem ms_i {tb : Nat → Nat} {iw b i N ts q : Nat} (hN : N < 256 ^ b) (ht0 : ∀ j, ts ≤ j → j < 64 → tb j = 0) (hq : q + b + 1 = 4 * iw) (hts : ts ≤ q) : i = msF tb iw b i N q := by
  unfold msF
  rw [nb_small hN (by omega), tz_hi ht0 hts, if_pos hq, Nat.or_zero, Nat.zero_or]
theorem ms_hi {tb : Nat → Nat} {iw b i N ts k : Nat} (ht0 : ∀ j, ts ≤ j → j < 64 → tb j = 0) (hb : b ≤ 4 * iw) (hk : k < b) (hts : ts + b ≤ 4 * iw) : beB N b k = msF tb iw b i N (4 * iw - b + k) := by
  unfold msF
  rw [tz_hi ht0 (by omega), if_neg (by omega), Nat.or_zero, Nat.or_zero]
  unfold nbF beB
  rw [show 4 * iw - 1 - (4 * iw - b + k) = b - 1 - k by omega]
/-- the stream's words make its number -/
def bev (st : Nat → Nat) : Nat → Nat
  | 0 => 0
  | n + 1 => bev st n * 256 + st n
theorem bev_lt {st : Nat → Nat} : ∀ {n : Nat}, (∀ q, q < n → st q < 256) → bev st n < 256 ^ n
  | 0, _ => by show 0 < 1; decide
  | n + 1, h => by
    have ih := bev_lt (n := n) (fun q hq => h q (by omega))
    have := h n (by omega)
    show bev st n * 256 + st n < 256 ^ (n + 1)
    rw [Nat.pow_succ]
    omega
theorem bev_be {st : Nat → Nat} : ∀ {n : Nat}, (∀ q, q < n → st q < 256) → ∀ q, q < n → beB (bev st n) n q = st q
  | 0, _, q, hq => absurd hq (Nat.not_lt_zero q)
  | n + 1, h, q, hq => by
    have hn := h n (by omega)
    unfold beB
    show (bev st n * 256 + st n) / 256 ^ (n + 1 - 1 - q) % 256 = st q
    by_cases e : q = n
    · rw [e, show n + 1 - 1 - n = 0 by omega, Nat.pow_zero, Nat.div_one]
      omega
    · have ih := bev_be (n := n) (fun z hz => h z (by omega)) q (by omega)
      unfold beB at ih
      rw [show n + 1 - 1 - q = (n - 1 - q) + 1 by omega, Nat.pow_succ, Nat.mul_comm (256 ^ (n - 1 - q)) 256, ← Nat.div_div_eq_div_mul, show (bev st n * 256 + st n) / 256 = bev st n by omega]
      exact ih
theorem nv_low (f : Nat → Nat) (n : Nat) : nv f (n + 1) = f 0 + 4294967296 * nv (fun q => f (q + 1)) n := by
  have e : ∀ m, hv f 1 m = nv (fun q => f (q + 1)) m := by
    intro m
    induction m with
    | zero => rfl
    | succ m ih =>
      show hv f 1 m + f (1 + m) * _ = nv _ m + f (m + 1) * _
      rw [ih, Nat.add_comm 1 m]
  rw [← hv_nv, hv_low, e]
theorem bev_y (st : Nat → Nat) : ∀ aw, bev st (4 * aw) = ynum st aw
  | 0 => rfl
  | aw + 1 => by
    have ih := bev_y st aw
    show (((bev st (4 * aw) * 256 + st (4 * aw)) * 256 + st (4 * aw + 1)) * 256 + st (4 * aw + 2)) * 256 + st (4 * aw + 3) = nv (fun q => pkf st (aw + 1 - 1 - q)) (aw + 1)
    rw [nv_low, ih]
    have e : nv (fun q => pkf st (aw + 1 - 1 - (q + 1))) aw = ynum st aw := nv_congr (fun k hk => by show pkf st (aw + 1 - 1 - (k + 1)) = pkf st (aw - 1 - k); congr 1; omega)
    rw [e]
    show _ = pkf st (aw + 1 - 1 - 0) + _
    rw [show aw + 1 - 1 - 0 = aw by omega]
    unfold pkf pk
    omega
theorem str_at {W R : Nat → Nat} {r c k : Nat} (hk : k < 16) : strF W r R (16 * c + k) = strB W r R c k := by
  unfold strF
  rw [show (16 * c + k) / 16 = c by omega, show (16 * c + k) % 16 = k by omega]
theorem fst_is {bs u n t : Nat} {g : Nat → Nat} (h0 : g 0 = 1) (h1 : g 1 = 2) (h2 : g 2 = 1) (h3 : g 3 = bs / 65536) (h4 : g 4 = bs / 256 % 256) (h5 : g 5 = bs % 256) (h6 : g 6 = 10) (h7 : g 7 = u) (hz : ∀ q, 8 ≤ q → q < 16 → g q = 0) : ∀ q, q < 16 → gU (gU g 11 n) 15 t q = fstB bs u n t q := by
  intro q hq
  rcases (show q = 0 ∨ q = 1 ∨ q = 2 ∨ q = 3 ∨ q = 4 ∨ q = 5 ∨ q = 6 ∨ q = 7 ∨ q = 8 ∨ q = 9 ∨ q = 10 ∨ q = 11 ∨ q = 12 ∨ q = 13 ∨ q = 14 ∨ q = 15 by omega) with e | e | e | e | e | e | e | e | e | e | e | e | e | e | e | e <;> subst e
  · exact h0
  · exact h1
  · exact h2
  · exact h3
  · exact h4
  · exact h5
  · exact h6
  · exact h7
  · exact hz 8 (by decide) (by decide)
  · exact hz 9 (by decide) (by decide)
  · exact hz 10 (by decide) (by decide)
  · rfl
  · exact hz 12 (by decide) (by decide)
  · exact hz 13 (by decide) (by decide)
  · exact hz 14 (by decide) (by decide)
  · rfl
theorem lt_ext {n v : Nat} {P : Nat → Nat → Prop} {g : Nat → Nat} (h : ∀ q, q < n → P q (g q)) (hv : P n v) : ∀ q, q < n + 1 → P q (gU g n v q) := by
  intro q hq
  by_cases e : q = n
  · rw [e, gU_s]; exact hv
  · rw [gU_n e]; exact h q (by omega)
theorem part_a {f ro : Nat → Nat} {i uu : Nat} (hf : ∀ q, q < i → q < uu → f q = ro q) : ∀ q, q < i + 1 → q < uu → gU f i (ro i) q = ro q := by
  intro q h1 h2
  by_cases e : q = i
  · rw [e, gU_s]
  · rw [gU_n e]; exact hf q (by omega) h2
theorem part_b {g ro : Nat → Nat} {i uu : Nat} (hg : ∀ q, uu + q < i → g q = ro (uu + q)) (hi : uu ≤ i) : ∀ q, uu + q < i + 1 → gU g (i - uu) (ro i) q = ro (uu + q) := by
  intro q h1
  by_cases e : q = i - uu
  · rw [e, gU_s]; congr 1; omega
  · rw [gU_n e]; exact hg q (by omega)
theorem first_z {g : Nat → Nat} {i : Nat} (hz : ∀ q, 8 ≤ q → q < i → g q = 0) : ∀ q, 8 ≤ q → q < i + 1 → gU g i 0 q = 0 := by
  intro q h1 h2
  by_cases e : q = i
  · rw [e, gU_s]
  · rw [gU_n e]; exact hz q h1 (by omega)
