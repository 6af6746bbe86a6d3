/-! The reference's bytes: multiplying, S, the words of a key. -/
def tmS (a bit v : Nat) : Nat := if bit = 1 then (if 255 < v * 2 then v * 2 ^^^ 283 else v * 2) ^^^ a else (if 255 < v * 2 then v * 2 ^^^ 283 else v * 2)
def tmI (a b : Nat) : Nat → Nat
  | 0 => 0
  | n + 1 => tmS a (b / 2 ^ (7 - n) &&& 1) (tmI a b n)
def tm (a b : Nat) : Nat := tmI a b 8
theorem tm_v2 : ∀ v, v < 256 → (if 255 < v * 2 then v * 2 ^^^ 283 else v * 2) < 256 := by decide +kernel
theorem tmS_lt {a bit v : Nat} (ha : a < 256) (hv : v < 256) : tmS a bit v < 256 := by
  unfold tmS
  split
  · exact wz_x8 (tm_v2 v hv) ha
  · exact tm_v2 v hv
theorem tmI_step {a b j : Nat} (hj : j < 8) : tmI a b (8 - j) = tmS a (b / 2 ^ j &&& 1) (tmI a b (8 - (j + 1))) := by
  obtain ⟨n, hn⟩ : ∃ n, 8 - (j + 1) = n := ⟨_, rfl⟩
  rw [hn, show 8 - j = n + 1 by omega, show j = 7 - n by omega]
  rfl
theorem tmI_lt {a b : Nat} (ha : a < 256) : ∀ n, tmI a b n < 256
  | 0 => by show 0 < 256; decide
  | n + 1 => tmS_lt ha (tmI_lt ha n)
theorem tm_2 : ∀ a, a < 256 → tm a 2 = x2 a := by decide +kernel
theorem tm_3 : ∀ a, a < 256 → tm a 3 = x2 a ^^^ a := by decide +kernel
def invI (b : Nat) : Nat → Nat
  | 0 => 0
  | n + 1 => if 0 < b ∧ tm b (n + 1) = 1 then n + 1 else invI b n
theorem invI_le (b : Nat) : ∀ n, invI b n ≤ n
  | 0 => Nat.le_refl 0
  | n + 1 => by
    show (if _ then n + 1 else invI b n) ≤ n + 1
    split
    · exact Nat.le_refl _
    · exact Nat.le_succ_of_le (invI_le b n)
def sbI (i : Nat) : Nat → Nat
  | 0 => i ^^^ 99
  | k + 1 => sbI i k ^^^ ((i * 2 ^ (k + 1) ||| i / 2 ^ (8 - (k + 1))) &&& 255)
def sOfN (b : Nat) : Nat := sbI (invI b 255) 4
/-- the reference's S is the table -/
theorem sOf_ok : ∀ b, b < 256 → sOfN b = sB b := by decide +kernel
theorem tFa0 {P : Nat → Nat} {w k : Nat} (h : k % w = 0) : sB (P (4 * (k - 1) + 1)) ^^^ rcon ((k - 1) / w) = tF P w k 0 := by unfold tF; rw [if_pos h, if_pos rfl]
theorem tFa1 {P : Nat → Nat} {w k : Nat} (h : k % w = 0) : sB (P (4 * (k - 1) + 2)) = tF P w k 1 := by unfold tF; rw [if_pos h, if_neg (by decide), Nat.xor_zero]
theorem tFa2 {P : Nat → Nat} {w k : Nat} (h : k % w = 0) : sB (P (4 * (k - 1) + 3)) = tF P w k 2 := by unfold tF; rw [if_pos h, if_neg (by decide), Nat.xor_zero]
theorem tFa3 {P : Nat → Nat} {w k : Nat} (h : k % w = 0) : sB (P (4 * (k - 1))) = tF P w k 3 := by
  unfold tF
  rw [if_pos h, if_neg (by decide), Nat.xor_zero]
  rfl
theorem tFbj {P : Nat → Nat} {w k : Nat} (j : Nat) (h : ¬ k % w = 0) (h8 : w = 8) (h4 : k % 8 = 4) : sB (P (4 * (k - 1) + j)) = tF P w k j := by unfold tF; rw [if_neg h, if_pos ⟨h8, h4⟩]
theorem tFcj {P : Nat → Nat} {w k : Nat} (j : Nat) (h : ¬ k % w = 0) (h8 : ¬ (w = 8 ∧ k % 8 = 4)) : P (4 * (k - 1) + j) = tF P w k j := by unfold tF; rw [if_neg h, if_neg h8]
theorem ks_step4 {K f : Nat → Nat} {w n x0 x1 x2 x3 : Nat} (h : ∀ q, q < 4 * (w + n) → f q = ksS K w n q) (h0 : x0 = ksS K w n (4 * n) ^^^ tF (ksS K w n) w (w + n) 0) (h1 : x1 = ksS K w n (4 * n + 1) ^^^ tF (ksS K w n) w (w + n) 1) (h2 : x2 = ksS K w n (4 * n + 2) ^^^ tF (ksS K w n) w (w + n) 2) (h3 : x3 = ksS K w n (4 * n + 3) ^^^ tF (ksS K w n) w (w + n) 3) : ∀ q, q < 4 * (w + (n + 1)) → gU (gU (gU (gU f (4 * (w + n)) x0) (4 * (w + n) + 1) x1) (4 * (w + n) + 2) x2) (4 * (w + n) + 3) x3 q = ksS K w (n + 1) q := by
  intro q hq
  by_cases e3 : q = 4 * (w + n) + 3
  · rw [e3, gU_s, ksS_hi (by decide), h3]
  · rw [gU_n e3]
    by_cases e2 : q = 4 * (w + n) + 2
    · rw [e2, gU_s, ksS_hi (by decide), h2]
    · rw [gU_n e2]
      by_cases e1 : q = 4 * (w + n) + 1
      · rw [e1, gU_s, ksS_hi (by decide), h1]
      · rw [gU_n e1]
        by_cases e0 : q = 4 * (w + n)
        · have := ksS_hi (K := K) (w := w) (n := n) (j := 0) (by decide)
          rw [e0, gU_s, h0]
          exact this.symm
        · rw [gU_n e0, h q (by omega), ksS_lo (by omega)]
theorem ksS_congr {K K' : Nat → Nat} {w : Nat} (hw : 1 ≤ w) (h : ∀ q, q < 4 * w → K q = K' q) : ∀ n q, q < 4 * (w + n) → ksS K w n q = ksS K' w n q
  | 0, q, hq => h q (by omega)
  | n + 1, q, hq => by
    have ih := ksS_congr hw h n
    show (if q / 4 = w + n then ksS K w n (4 * n + q % 4) ^^^ tF (ksS K w n) w (w + n) (q % 4) else ksS K w n q) = (if q / 4 = w + n then ksS K' w n (4 * n + q % 4) ^^^ tF (ksS K' w n) w (w + n) (q % 4) else ksS K' w n q)
    by_cases e : q / 4 = w + n
    · rw [if_pos e, if_pos e, ih _ (by omega)]
      congr 1
      unfold tF
      rw [ih (4 * (w + n - 1) + (q % 4 + 1) % 4) (by omega), ih (4 * (w + n - 1) + q % 4) (by omega)]
    · rw [if_neg e, if_neg e, ih q (by omega)]
theorem subR_at {B : Nat → Nat} {c k : Nat} (hk : k < 4) : subR B (4 * c + k) = sB (B (4 * ((c + k) % 4) + k)) := by
  unfold subR
  rw [show (4 * c + k) / 4 = c by omega, show (4 * c + k) % 4 = k by omega]
theorem mixR_at {M : Nat → Nat} {c k : Nat} (hk : k < 4) : mixR M (4 * c + k) = mxB (M (4 * c + k)) (M (4 * c + (k + 1) % 4)) (M (4 * c + (k + 2) % 4)) (M (4 * c + (k + 3) % 4)) := by
  unfold mixR
  rw [show (4 * c + k) / 4 = c by omega, show (4 * c + k) % 4 = k by omega]
theorem keyK_ix {t i ks : Nat} (kb : Nat → Nat) (h : 4 * (ks / 4) = ks) : kb (if t = 0 then i else ks - 1 - i) = keyK t kb (ks / 4) i := by
  unfold keyK
  rw [h]
  by_cases q : t = 0
  · rw [if_pos q, if_pos q]
  · rw [if_neg q, if_neg q]
