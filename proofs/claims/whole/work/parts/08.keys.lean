/-! The words that a key makes, in bytes: K the key's bytes, w words of it, n words more. -/
def rcon : Nat → Nat
  | 0 => 1
  | n + 1 => x2 (rcon n)
theorem rcon_lt : ∀ n, rcon n < 256
  | 0 => by decide
  | n + 1 => x2_lt _ (rcon_lt n)
def tF (P : Nat → Nat) (w k j : Nat) : Nat := if k % w = 0 then sB (P (4 * (k - 1) + (j + 1) % 4)) ^^^ (if j = 0 then rcon ((k - 1) / w) else 0) else if w = 8 ∧ k % 8 = 4 then sB (P (4 * (k - 1) + j)) else P (4 * (k - 1) + j)
def ksS (K : Nat → Nat) (w : Nat) : Nat → Nat → Nat
  | 0 => K
  | n + 1 => fun q => if q / 4 = w + n then ksS K w n (4 * n + q % 4) ^^^ tF (ksS K w n) w (w + n) (q % 4) else ksS K w n q
theorem tF_lt {P : Nat → Nat} {w k j : Nat} (h : ∀ q, q < 4 * k → P q < 256) (hk : 1 ≤ k) (hj : j < 4) : tF P w k j < 256 := by
  unfold tF
  split
  · refine wz_x8 (sB_lt _ (h _ (by omega))) ?_
    split
    · exact rcon_lt _
    · decide
  · split
    · exact sB_lt _ (h _ (by omega))
    · exact h _ (by omega)
theorem ksS_lt {K : Nat → Nat} {w : Nat} (hw : 1 ≤ w) (hK : ∀ q, q < 4 * w → K q < 256) : ∀ n q, q < 4 * (w + n) → ksS K w n q < 256
  | 0, q, hq => hK q (by omega)
  | n + 1, q, hq => by
    show (if q / 4 = w + n then _ else _) < 256
    split
    · exact wz_x8 (ksS_lt hw hK n _ (by omega)) (tF_lt (ksS_lt hw hK n) (by omega) (by omega))
    · exact ksS_lt hw hK n q (by omega)
theorem ksS_lo {K : Nat → Nat} {w n q : Nat} (h : q / 4 < w + n) : ksS K w (n + 1) q = ksS K w n q := if_neg (by omega)
theorem ksS_hi {K : Nat → Nat} {w n j : Nat} (hj : j < 4) : ksS K w (n + 1) (4 * (w + n) + j) = ksS K w n (4 * n + j) ^^^ tF (ksS K w n) w (w + n) j := by
  show (if (4 * (w + n) + j) / 4 = w + n then _ else _) = _
  rw [if_pos (by omega), show (4 * (w + n) + j) % 4 = j by omega]
theorem pkf_lo {K : Nat → Nat} {w n k : Nat} (h : k < w + n) : pkf (ksS K w (n + 1)) k = pkf (ksS K w n) k := by
  unfold pkf
  rw [ksS_lo (by omega), ksS_lo (by omega), ksS_lo (by omega), ksS_lo (by omega)]
theorem pkf_hi {K : Nat → Nat} {w n : Nat} (hw : 1 ≤ w) (hK : ∀ q, q < 4 * w → K q < 256) : pkf (ksS K w (n + 1)) (w + n) = pkf (ksS K w n) n ^^^ pk (tF (ksS K w n) w (w + n) 0) (tF (ksS K w n) w (w + n) 1) (tF (ksS K w n) w (w + n) 2) (tF (ksS K w n) w (w + n) 3) := by
  have hb := ksS_lt hw hK n
  have ht : ∀ j, j < 4 → tF (ksS K w n) w (w + n) j < 256 := fun j hj => tF_lt hb (by omega) hj
  unfold pkf
  rw [pkw_xor (hb _ (by omega)) (hb _ (by omega)) (hb _ (by omega)) (ht 1 (by decide)) (ht 2 (by decide)) (ht 3 (by decide))]
  have e0 : ksS K w (n + 1) (4 * (w + n)) = ksS K w n (4 * n) ^^^ tF (ksS K w n) w (w + n) 0 := ksS_hi (K := K) (w := w) (n := n) (j := 0) (by decide)
  rw [e0, ksS_hi (by decide), ksS_hi (by decide), ksS_hi (by decide)]
theorem div_step {k w : Nat} (hw : 1 ≤ w) (hk : 1 ≤ k) : k / w = if k % w = 0 then (k - 1) / w + 1 else (k - 1) / w := by
  obtain ⟨k, rfl⟩ : ∃ j, k = j + 1 := ⟨k - 1, by omega⟩
  rw [Nat.add_sub_cancel, Nat.succ_div]
  by_cases h : w ∣ k + 1
  · rw [if_pos h, if_pos (Nat.mod_eq_zero_of_dvd h)]
  · rw [if_neg h, if_neg (fun q => h (Nat.dvd_of_mod_eq_zero q)), Nat.add_zero]
/-- the key's bytes as a way wants them -/
def keyK (t : Nat) (b : Nat → Nat) (w : Nat) : Nat → Nat := fun q => if t = 0 then b q else b (4 * w - 1 - q)
theorem keyK_lt {t w : Nat} {b : Nat → Nat} (hw : w ≤ 16) (hb : ∀ j, j < 64 → b j < 256) : ∀ q, q < 4 * w → keyK t b w q < 256 := by
  intro q hq
  unfold keyK
  split
  · exact hb _ (by omega)
  · exact hb _ (by omega)
theorem pkf_key0 (b : Nat → Nat) (w k : Nat) : pkf b k = pkf (keyK 0 b w) k := rfl
theorem pkf_key1 {t : Nat} (b : Nat → Nat) {w k : Nat} (ht : t ≠ 0) (hk : k < w) : pk (b (4 * (w - 1 - k) + 3)) (b (4 * (w - 1 - k) + 2)) (b (4 * (w - 1 - k) + 1)) (b (4 * (w - 1 - k))) = pkf (keyK t b w) k := by
  unfold pkf keyK
  simp only [if_neg ht]
  congr 2 <;> omega
/-- the word that comes, in the class's three cases -/
theorem tF_a {P : Nat → Nat} {w k : Nat} (h : k % w = 0) (hP : ∀ q, q < 4 * k → P q < 256) (hk : 1 ≤ k) : pk (sB (P (4 * (k - 1) + 1))) (sB (P (4 * (k - 1) + 2))) (sB (P (4 * (k - 1) + 3))) (sB (P (4 * (k - 1)))) ^^^ rcon ((k - 1) / w) * 16777216 = pk (tF P w k 0) (tF P w k 1) (tF P w k 2) (tF P w k 3) := by
  have z : (0 : Nat) < 256 := by decide
  have e := pkw_e0 (rcon ((k - 1) / w))
  rw [e, pkw_xor (sB_lt _ (hP _ (by omega))) (sB_lt _ (hP _ (by omega))) (sB_lt _ (hP _ (by omega))) z z z]
  unfold tF
  simp only [if_pos h, Nat.reduceAdd, Nat.reduceMod, Nat.reduceEqDiff, reduceIte, Nat.add_zero, Nat.xor_zero]
theorem tF_b {P : Nat → Nat} {w k : Nat} (h : ¬ k % w = 0) (h8 : w = 8) (h4 : k % 8 = 4) : pk (sB (P (4 * (k - 1)))) (sB (P (4 * (k - 1) + 1))) (sB (P (4 * (k - 1) + 2))) (sB (P (4 * (k - 1) + 3))) = pk (tF P w k 0) (tF P w k 1) (tF P w k 2) (tF P w k 3) := by
  unfold tF
  simp only [if_neg h, if_pos (And.intro h8 h4), Nat.add_zero]
theorem tF_c {P : Nat → Nat} {w k : Nat} (h : ¬ k % w = 0) (h8 : ¬ (w = 8 ∧ k % 8 = 4)) : pkf P (k - 1) = pk (tF P w k 0) (tF P w k 1) (tF P w k 2) (tF P w k 3) := by
  unfold tF pkf
  simp only [if_neg h, if_neg h8, Nat.add_zero]
theorem dbl_b {r : Nat} (h : r < 256) : dblW r = x2 r := by
  have z : (0 : Nat) < 256 := by decide
  have e := dbl_pk z z z h
  rw [← pkw_e3 r] at e
  rw [e, show x2 0 = 0 from by decide, ← pkw_e3]
theorem rcon_up {k w : Nat} (hw : 1 ≤ w) (hk : 1 ≤ k) (h : k % w = 0) : dblW (rcon ((k - 1) / w)) = rcon (k / w) := by
  rw [dbl_b (rcon_lt _), div_step hw hk, if_pos h]
  rfl
theorem rcon_same {k w : Nat} (hw : 1 ≤ w) (hk : 1 ≤ k) (h : k % w ≠ 0) : rcon ((k - 1) / w) = rcon (k / w) := by
  rw [div_step hw hk, if_neg h]
theorem ks_step {K f : Nat → Nat} {w n v : Nat} (h : ∀ q, q < w + n → f q = pkf (ksS K w n) q) (hv : v = pkf (ksS K w (n + 1)) (w + n)) : ∀ q, q < w + (n + 1) → gU f (w + n) v q = pkf (ksS K w (n + 1)) q := by
  intro q hq
  by_cases e : q = w + n
  · rw [e, gU_s, hv]
  · rw [gU_n e, h q (by omega), pkf_lo (by omega)]
