/-! The two ways, in bytes: what is enciphered, what comes of it. -/
def enc (W : Nat → Nat) (r : Nat) (B : Nat → Nat) : Nat → Nat := encI W r B r
theorem enc_lt {W B : Nat → Nat} {r : Nat} (hW : ∀ j, j < 16 * (r + 1) → W j < 256) (h : ∀ j, j < 16 → B j < 256) : ∀ j, j < 16 → enc W r B j < 256 := encI_lt hW h r (Nat.le_refl r)
theorem encI_congr {W B B' : Nat → Nat} {r : Nat} (h : ∀ j, j < 16 → B j = B' j) : ∀ i, ∀ j, j < 16 → encI W r B i j = encI W r B' i j
  | 0, j, hj => by show B j ^^^ W j = B' j ^^^ W j; rw [h j hj]
  | i + 1, j, hj => by
    have ih := encI_congr (W := W) (r := r) h i
    have hs : ∀ q, q < 16 → subR (encI W r B i) q = subR (encI W r B' i) q := fun q hq => by unfold subR; rw [ih _ (by omega)]
    show (if i + 1 < r then mixR (subR (encI W r B i)) j else subR (encI W r B i) j) ^^^ _ = (if i + 1 < r then mixR (subR (encI W r B' i)) j else subR (encI W r B' i) j) ^^^ _
    rw [hs j hj]
    have hm : mixR (subR (encI W r B i)) j = mixR (subR (encI W r B' i)) j := by
      unfold mixR
      rw [hs _ (by omega), hs _ (by omega), hs _ (by omega), hs _ (by omega)]
    rw [hm]
theorem enc_congr {W B B' : Nat → Nat} {r : Nat} (h : ∀ j, j < 16 → B j = B' j) : ∀ j, j < 16 → enc W r B j = enc W r B' j := encI_congr h r
theorem pkf_congr {f g : Nat → Nat} {c : Nat} (h : ∀ j, j < 4 → f (4 * c + j) = g (4 * c + j)) : pkf f c = pkf g c := by
  unfold pkf
  have h0 : f (4 * c) = g (4 * c) := h 0 (by decide)
  rw [h0, h 1 (by decide), h 2 (by decide), h 3 (by decide)]
/-- way 0: the first block -/
def fstB (bs u n t : Nat) : Nat → Nat := fun j => [1, 2, 1, bs / 65536, bs / 256 % 256, bs % 256, 10, u, 0, 0, 0, n, 0, 0, 0, t].getD j 0
theorem fst_w0 {bs : Nat} (h : bs ≤ 65536) : 16908544 ||| bs / 65536 = pk 1 2 1 (bs / 65536) := by
  have z : (0 : Nat) < 256 := by decide
  have hx : bs / 65536 < 256 := by omega
  have e := pkw_e3 (bs / 65536)
  have e2 : (16908544 : Nat) = pk 1 2 1 0 := by decide
  conv => lhs; rw [e, e2]
  rw [pkw_or (by decide) (by decide) z z z hx]
  simp only [Nat.or_zero, Nat.zero_or]
theorem fst_w1 {bs u : Nat} (hu : u < 256) : (bs &&& 65535) * 65536 ||| 2560 ||| (u &&& 255) = pk (bs / 256 % 256) (bs % 256) 10 u := by
  have z : (0 : Nat) < 256 := by decide
  have e1 : bs &&& 65535 = bs % 65536 := Nat.and_two_pow_sub_one_eq_mod bs 16
  have e3 : bs % 65536 * 65536 = pk (bs / 256 % 256) (bs % 256) 0 0 := by show _ = ((_ * 256 + _) * 256 + 0) * 256 + 0; omega
  have e4 : (2560 : Nat) = pk 0 0 10 0 := by decide
  have e5 := pkw_e3 u
  rw [e1, e3, e4, wz_255, Nat.mod_eq_of_lt hu]
  conv => lhs; rhs; rw [e5]
  rw [pkw_or (by omega) z z z (by decide) z]
  simp only [Nat.or_zero, Nat.zero_or]
  rw [pkw_or (by omega) (by decide) z z z hu]
  simp only [Nat.or_zero, Nat.zero_or]
theorem fstB_lt {bs u n t : Nat} (h : bs ≤ 65536) (hu : u < 256) (hn : n < 256) (ht : t < 256) : ∀ j, j < 16 → fstB bs u n t j < 256 := by
  intro j hj
  have h0 : bs / 65536 < 256 := by omega
  have h1 : bs / 256 % 256 < 256 := by omega
  have h2 : bs % 256 < 256 := by omega
  unfold fstB
  rcases (show j = 0 ∨ j = 1 ∨ j = 2 ∨ j = 3 ∨ j = 4 ∨ j = 5 ∨ j = 6 ∨ j = 7 ∨ j = 8 ∨ j = 9 ∨ j = 10 ∨ j = 11 ∨ j = 12 ∨ j = 13 ∨ j = 14 ∨ j = 15 by omega) with q | q | q | q | q | q | q | q | q | q | q | q | q | q | q | q <;> subst q <;> first | exact h0 | exact h1 | exact h2 | exact hu | exact hn | exact ht | (show (1 : Nat) < 256; decide) | (show (2 : Nat) < 256; decide) | (show (10 : Nat) < 256; decide) | (show (0 : Nat) < 256; decide)
theorem bl_le {v k : Nat} (h : v < 256 ^ k) : bl v ≤ k := by
  obtain ⟨h1, h2⟩ := bl_is v
  rcases h2 with h2 | h2
  · omega
  · rcases Nat.lt_or_ge k (bl v) with q | q
    · have := Nat.pow_le_pow_right (show 256 > 0 by decide) (show k ≤ bl v - 1 by omega)
      omega
    · exact q
theorem bl_64 {b m : Nat} (hb1 : 1 ≤ b) (hb : b ≤ 65536) (hm : m ≤ 32) : bl (b ^ m - 1) ≤ 64 := by
  refine bl_le ?_
  have h1 := Nat.pow_le_pow_left hb m
  have h2 := Nat.pow_le_pow_right (show 65536 > 0 by decide) hm
  have h3 : (65536 : Nat) ^ 32 = 256 ^ 64 := by decide
  have h4 := Nat.one_le_pow m b hb1
  omega
def ff1b (bs n : Nat) : Nat := bl (bs ^ (n - n / 2) - 1)
def ff1iw (bs n t : Nat) : Nat := (t + 1 + ff1b bs n + 16 - 1) / 16 * 4
def ff1aw (bs n : Nat) : Nat := (ff1b bs n + 3) / 4 + 1
def ff1rp (bs n t : Nat) : Nat := 4 * ff1iw bs n t - ff1b bs n - 1
/-- the words of a number -/
theorem nv_word {f : Nat → Nat} : ∀ {n k : Nat}, (∀ q, q < n → f q < 4294967296) → k < n → f k = nv f n / 4294967296 ^ k % 4294967296
  | 0, k, _, hk => absurd hk (Nat.not_lt_zero k)
  | n + 1, k, h, hk => by
    have hp : 0 < 4294967296 ^ k := Nat.pow_pos (by decide)
    by_cases e : k = n
    · subst e
      have hlo := nv_lt (f := f) (n := k) (fun q hq => h q (by omega))
      show f k = (nv f k + f k * 4294967296 ^ k) / 4294967296 ^ k % 4294967296
      rw [Nat.add_mul_div_right _ _ hp, Nat.div_eq_of_lt hlo, Nat.zero_add, Nat.mod_eq_of_lt (h k (by omega))]
    · have ih := nv_word (n := n) (k := k) (fun q hq => h q (by omega)) (by omega)
      show f k = (nv f n + f n * 4294967296 ^ n) / 4294967296 ^ k % 4294967296
      obtain ⟨j, hj⟩ : ∃ j, n = k + (j + 1) := ⟨n - k - 1, by omega⟩
      have e2 : f n * 4294967296 ^ n = (f n * 4294967296 ^ j * 4294967296) * 4294967296 ^ k := by
        rw [show (4294967296 : Nat) ^ n = 4294967296 ^ k * (4294967296 ^ j * 4294967296) by rw [hj, Nat.pow_add, Nat.pow_succ]]
        rw [Nat.mul_comm (4294967296 ^ k), ← Nat.mul_assoc, ← Nat.mul_assoc]
      rw [e2, Nat.add_mul_div_right _ _ hp, Nat.add_mul_mod_self_right]
      exact ih
theorem nv_above {f : Nat → Nat} {n k : Nat} (h : ∀ q, q < n → f q < 4294967296) (hk : n ≤ k) : nv f n / 4294967296 ^ k % 4294967296 = 0 := by
  have h1 := nv_lt h
  have h2 := Nat.pow_le_pow_right (show 4294967296 > 0 by decide) hk
  rw [Nat.div_eq_of_lt (by omega)]
theorem wordAt_eq {f : Nat → Nat} {n v k : Nat} (h : NatOk f n v) : (if k < n then f k else 0) = v / 4294967296 ^ k % 4294967296 := by
  obtain ⟨a, b, e, d⟩ := h
  rw [← e]
  by_cases q : k < n
  · rw [if_pos q]; exact nv_word (fun z hz => b z (by omega)) q
  · rw [if_neg q]; exact (nv_above (fun z hz => b z (by omega)) (by omega)).symm
/-- a word of a number, byte by byte -/
theorem word_pk (v m : Nat) : v / 4294967296 ^ m % 4294967296 = pk (v / 256 ^ (4 * m + 3) % 256) (v / 256 ^ (4 * m + 2) % 256) (v / 256 ^ (4 * m + 1) % 256) (v / 256 ^ (4 * m) % 256) := by
  have e : ∀ a, v / 256 ^ (4 * m + a) = v / 4294967296 ^ m / 256 ^ a := fun a => by rw [Nat.pow_add, ← pow32, Nat.div_div_eq_div_mul]
  rw [e 3, e 2, e 1, ← pow32]
  generalize v / 4294967296 ^ m = x
  show _ = ((x / 16777216 % 256 * 256 + x / 65536 % 256) * 256 + x / 256 % 256) * 256 + x % 256
  omega
/-- way 0: the bytes that are chained -/
def nbF (iw N : Nat) : Nat → Nat := fun q => N / 256 ^ (4 * iw - 1 - q) % 256
def tzF (tb : Nat → Nat) : Nat → Nat := fun q => if q < 64 then tb q else 0
def msF (tb : Nat → Nat) (iw b i N : Nat) : Nat → Nat := fun q => (nbF iw N q ||| tzF tb q) ||| (if q + b + 1 = 4 * iw then i else 0)
theorem nbF_lt (iw N q : Nat) : nbF iw N q < 256 := Nat.mod_lt _ (by decide)
theorem tzF_lt {tb : Nat → Nat} (h : ∀ j, j < 64 → tb j < 256) (q : Nat) : tzF tb q < 256 := by
  unfold tzF
  split
  · exact h q (by omega)
  · decide
theorem msF_lt {tb : Nat → Nat} {iw b i N : Nat} (h : ∀ j, j < 64 → tb j < 256) (hi : i < 256) (q : Nat) : msF tb iw b i N q < 256 := by
  refine wz_o8 (wz_o8 (nbF_lt _ _ _) (tzF_lt h q)) ?_
  split
  · exact hi
  · decide
theorem nb_word {iw k N : Nat} (hk : k < iw) : N / 4294967296 ^ (iw - 1 - k) % 4294967296 = pkf (nbF iw N) k := by
  rw [word_pk]
  unfold pkf nbF
  rw [show 4 * iw - 1 - 4 * k = 4 * (iw - 1 - k) + 3 by omega, show 4 * iw - 1 - (4 * k + 1) = 4 * (iw - 1 - k) + 2 by omega, show 4 * iw - 1 - (4 * k + 2) = 4 * (iw - 1 - k) + 1 by omega, show 4 * iw - 1 - (4 * k + 3) = 4 * (iw - 1 - k) by omega]
theorem pkf_or {f g : Nat → Nat} {k : Nat} (hf : ∀ q, f q < 256) (hg : ∀ q, g q < 256) : pkf f k ||| pkf g k = pkf (fun q => f q ||| g q) k := pkw_or (hf _) (hf _) (hf _) (hg _) (hg _) (hg _)
theorem tz_word {tb : Nat → Nat} {k : Nat} (hk : k < 16) : pkf tb k = pkf (tzF tb) k := pkf_congr (fun j hj => (if_pos (by omega)).symm)
theorem tz_0 {tb f : Nat → Nat} {t k : Nat} (h0 : ∀ j, t ≤ j → j < 64 → tb j = 0) (hk : t ≤ 4 * k) : pkf f k = pkf (fun q => f q ||| tzF tb q) k := by
  refine pkf_congr (fun j hj => ?_)
  have : tzF tb (4 * k + j) = 0 := by
    unfold tzF
    split
    · exact h0 _ (by omega) (by omega)
    · rfl
  show f _ = f _ ||| tzF tb _
  rw [this, Nat.or_zero]
/-- the round's number at its place -/
theorem rb_word {g : Nat → Nat} {iw b i rp k : Nat} (hg : ∀ q, g q < 256) (hi : i < 256) (hrp : rp + b + 1 = 4 * iw) (hk : k = rp / 4) : pkf g k ||| i * 2 ^ (24 - 8 * (rp % 4)) = pkf (fun q => g q ||| (if q + b + 1 = 4 * iw then i else 0)) k := by
  have z : (0 : Nat) < 256 := by decide
  have hq : ∀ q, (if q + b + 1 = 4 * iw then i else 0) = (if q = rp then i else 0) := fun q => by
    by_cases h : q = rp
    · rw [if_pos h, if_pos (by omega)]
    · rw [if_neg h, if_neg (by omega)]
  have e : i * 2 ^ (24 - 8 * (rp % 4)) = pkf (fun q => if q = rp then i else 0) k := by
    show _ = pk (if 4 * k = rp then i else 0) (if 4 * k + 1 = rp then i else 0) (if 4 * k + 2 = rp then i else 0) (if 4 * k + 3 = rp then i else 0)
    rcases (show rp % 4 = 0 ∨ rp % 4 = 1 ∨ rp % 4 = 2 ∨ rp % 4 = 3 by omega) with h | h | h | h
    · rw [h, if_pos (show 4 * k = rp by omega), if_neg (show ¬ 4 * k + 1 = rp by omega), if_neg (show ¬ 4 * k + 2 = rp by omega), if_neg (show ¬ 4 * k + 3 = rp by omega)]; exact pkw_e0 i
    · rw [h, if_neg (show ¬ 4 * k = rp by omega), if_pos (show 4 * k + 1 = rp by omega), if_neg (show ¬ 4 * k + 2 = rp by omega), if_neg (show ¬ 4 * k + 3 = rp by omega)]; exact pkw_e1 i
    · rw [h, if_neg (show ¬ 4 * k = rp by omega), if_neg (show ¬ 4 * k + 1 = rp by omega), if_pos (show 4 * k + 2 = rp by omega), if_neg (show ¬ 4 * k + 3 = rp by omega)]; exact pkw_e2 i
    · rw [h, if_neg (show ¬ 4 * k = rp by omega), if_neg (show ¬ 4 * k + 1 = rp by omega), if_neg (show ¬ 4 * k + 2 = rp by omega), if_pos (show 4 * k + 3 = rp by omega)]; rw [show i * 2 ^ (24 - 8 * 3) = i by show i * 1 = i; omega]; exact pkw_e3 i
  rw [e, pkf_or hg (fun q => by split <;> omega)]
  exact pkf_congr (fun j hj => by show _ ||| _ = _ ||| _; rw [hq])
theorem rb_0 {g : Nat → Nat} {iw b i rp k : Nat} (hrp : rp + b + 1 = 4 * iw) (hk : k ≠ rp / 4) : pkf g k = pkf (fun q => g q ||| (if q + b + 1 = 4 * iw then i else 0)) k := by
  refine pkf_congr (fun j hj => ?_)
  show _ = _ ||| _
  rw [if_neg (by omega), Nat.or_zero]
def cbcF (W : Nat → Nat) (r : Nat) (R0 ms : Nat → Nat) : Nat → Nat → Nat
  | 0 => R0
  | q + 1 => enc W r (fun j => cbcF W r R0 ms q j ^^^ ms (16 * q + j))
def strB (W : Nat → Nat) (r : Nat) (R : Nat → Nat) (p : Nat) : Nat → Nat := if p = 0 then R else enc W r (fun j => R j ^^^ (if j = 15 then p else 0))
def strF (W : Nat → Nat) (r : Nat) (R : Nat → Nat) : Nat → Nat := fun k => strB W r R (k / 16) (k % 16)
theorem cbcF_lt {W R0 ms : Nat → Nat} {r : Nat} (hW : ∀ j, j < 16 * (r + 1) → W j < 256) (h0 : ∀ j, j < 16 → R0 j < 256) (hm : ∀ q, ms q < 256) : ∀ q, ∀ j, j < 16 → cbcF W r R0 ms q j < 256
  | 0 => h0
  | q + 1 => enc_lt hW (fun j hj => wz_x8 (cbcF_lt hW h0 hm q j hj) (hm _))
theorem strB_lt {W R : Nat → Nat} {r p : Nat} (hW : ∀ j, j < 16 * (r + 1) → W j < 256) (h0 : ∀ j, j < 16 → R j < 256) (hp : p < 256) : ∀ j, j < 16 → strB W r R p j < 256 := by
  unfold strB
  split
  · exact h0
  · exact enc_lt hW (fun j hj => wz_x8 (h0 j hj) (by split <;> omega))
theorem pkf_str {W R : Nat → Nat} {r k : Nat} : pkf (strF W r R) k = pkf (strB W r R (k / 4)) (k % 4) := by
  unfold pkf strF
  rw [show 4 * k / 16 = k / 4 by omega, show 4 * k % 16 = 4 * (k % 4) by omega, show (4 * k + 1) / 16 = k / 4 by omega, show (4 * k + 1) % 16 = 4 * (k % 4) + 1 by omega, show (4 * k + 2) / 16 = k / 4 by omega, show (4 * k + 2) % 16 = 4 * (k % 4) + 2 by omega, show (4 * k + 3) / 16 = k / 4 by omega, show (4 * k + 3) % 16 = 4 * (k % 4) + 3 by omega]
/-- the number that so many words of a stream are, the first one highest -/
def ynum (st : Nat → Nat) (aw : Nat) : Nat := nv (fun q => pkf st (aw - 1 - q)) aw
/-- the chain of way 0, k words of it in -/
def ChI (C : Nat → Nat → Nat) (ms g : Nat → Nat) (k : Nat) : Prop := ∀ q, q < 4 → g q = pkf (C (k / 4)) q ^^^ (if q < k % 4 then pkf ms (4 * (k / 4) + q) else 0)
theorem ChI.start {C : Nat → Nat → Nat} {ms g : Nat → Nat} (h : ∀ q, q < 4 → g q = pkf (C 0) q) : ChI C ms g 0 := fun q hq => by
  rw [show 0 / 4 = 0 from rfl, show 0 % 4 = 0 from rfl, if_neg (Nat.not_lt_zero q), Nat.xor_zero]
  exact h q hq
theorem ChI.here {C : Nat → Nat → Nat} {ms g : Nat → Nat} {k : Nat} (h : ChI C ms g k) : g (k % 4) = pkf (C (k / 4)) (k % 4) := by
  rw [h _ (by omega), if_neg (Nat.lt_irrefl _), Nat.xor_zero]
theorem ChI.step {C : Nat → Nat → Nat} {ms g : Nat → Nat} {k : Nat} (h : ChI C ms g k) (hk : k % 4 ≠ 3) : ChI C ms (gU g (k % 4) (pkf (C (k / 4)) (k % 4) ^^^ pkf ms k)) (k + 1) := by
  intro q hq
  rw [show (k + 1) / 4 = k / 4 by omega, show (k + 1) % 4 = k % 4 + 1 by omega]
  by_cases e : q = k % 4
  · rw [e, gU_s, if_pos (Nat.lt_succ_self _), show 4 * (k / 4) + k % 4 = k by omega]
  · rw [gU_n e, h q hq]
    by_cases z : q < k % 4
    · rw [if_pos z, if_pos (by omega)]
    · rw [if_neg z, if_neg (by omega)]
theorem pkf_xor2 {f g : Nat → Nat} {c n m : Nat} (hf : ∀ j, j < n → f j < 256) (hg : ∀ j, j < m → g j < 256) (hc : 4 * c + 3 < n) (hm : 4 * c + 3 < m) : pkf f c ^^^ pkf g c = pkf (fun j => f j ^^^ g j) c := by
  have a := pkf_b hf hc
  have b := pkf_b hg hm
  exact pkf_xor ⟨a.2.1, a.2.2.1, a.2.2.2⟩ ⟨b.2.1, b.2.2.1, b.2.2.2⟩
theorem ChI.full {C : Nat → Nat → Nat} {ms g : Nat → Nat} {k : Nat} (h : ChI C ms g k) (hk : k % 4 = 3) (hC : ∀ j, j < 16 → C (k / 4) j < 256) (hm : ∀ q, ms q < 256) : ∀ q, q < 4 → gU g (k % 4) (pkf (C (k / 4)) (k % 4) ^^^ pkf ms k) q = pkf (fun j => C (k / 4) j ^^^ ms (16 * (k / 4) + j)) q := by
  have key : ∀ q, q < 4 → pkf (C (k / 4)) q ^^^ pkf ms (4 * (k / 4) + q) = pkf (fun j => C (k / 4) j ^^^ ms (16 * (k / 4) + j)) q := by
    intro q hq
    have e : pkf ms (4 * (k / 4) + q) = pkf (fun j => ms (16 * (k / 4) + j)) q := by
      unfold pkf
      rw [show 4 * (4 * (k / 4) + q) = 16 * (k / 4) + 4 * q by omega, Nat.add_assoc, Nat.add_assoc, Nat.add_assoc]
    rw [e]
    exact pkf_xor2 (n := 16) (m := 16) hC (fun j _ => hm _) (by omega) (by omega)
  intro q hq
  by_cases e : q = k % 4
  · rw [e, gU_s, ← key _ (by omega), show 4 * (k / 4) + k % 4 = k by omega]
  · rw [gU_n e, h q hq, if_pos (by omega)]
    exact key q hq
theorem ChI.next {C : Nat → Nat → Nat} {ms g : Nat → Nat} {k : Nat} (hk : k % 4 = 3) (h : ∀ q, q < 4 → g q = pkf (C (k / 4 + 1)) q) : ChI C ms g (k + 1) := by
  intro q hq
  rw [show (k + 1) / 4 = k / 4 + 1 by omega, show (k + 1) % 4 = 0 by omega, if_neg (Nat.not_lt_zero q), Nat.xor_zero]
  exact h q hq
theorem ChI.done {C : Nat → Nat → Nat} {ms g : Nat → Nat} {k : Nat} (h : ChI C ms g k) (hk : k % 4 = 0) : ∀ q, q < 4 → g q = pkf (C (k / 4)) q := fun q hq => by rw [h q hq, hk, if_neg (Nat.not_lt_zero q), Nat.xor_zero]
/-- the stream's block behind the first -/
theorem str_in {R c : Nat → Nat} {p : Nat} (hR : ∀ j, j < 16 → R j < 256) (hp : p < 256) (hc : ∀ q, q < 4 → c q = pkf R q) : ∀ q, q < 4 → gU c 3 (c 3 ^^^ p) q = pkf (fun j => R j ^^^ (if j = 15 then p else 0)) q := by
  have z : (0 : Nat) < 256 := by decide
  intro q hq
  by_cases e : q = 3
  · rw [e, gU_s, hc 3 (by decide)]
    have h3 := pkf_b (c := 3) hR (by decide)
    have e3 := pkw_e3 p
    conv => lhs; rhs; rw [e3]
    unfold pkf
    rw [pkw_xor h3.2.1 h3.2.2.1 h3.2.2.2 z z hp]
    rfl
  · rw [gU_n e, hc q hq]
    refine pkf_congr (fun j hj => ?_)
    show _ = _ ^^^ _
    rw [if_neg (by omega), Nat.xor_zero]
theorem str_is {W R : Nat → Nat} {r p : Nat} (hp : p ≠ 0) : strB W r R p = encI W r (fun j => R j ^^^ (if j = 15 then p else 0)) r := if_neg hp
/-- the words of the stream, laid from the highest down -/
def StI (st g : Nat → Nat) (aw k mz : Nat) : Prop := (∀ q, q < 17 → g q = if aw - k ≤ q ∧ q < aw then pkf st (aw - 1 - q) else 0) ∧ ((k = 0 ∧ mz = 0) ∨ (0 < k ∧ mz = aw))
theorem StI.start {st g : Nat → Nat} {aw : Nat} (h : ∀ q, q < 17 → g q = 0) : StI st g aw 0 0 := ⟨fun q hq => by rw [h q hq, if_neg (by omega)], Or.inl ⟨rfl, rfl⟩⟩
theorem StI.step {st g : Nat → Nat} {aw k mz : Nat} (h : StI st g aw k mz) (hk : k < aw) : StI st (gU g (aw - 1 - k) (pkf st k)) aw (k + 1) (max mz (aw - 1 - k + 1)) := by
  refine ⟨fun q hq => ?_, Or.inr ⟨by omega, ?_⟩⟩
  · by_cases e : q = aw - 1 - k
    · rw [e, gU_s, if_pos (by omega), show aw - 1 - (aw - 1 - k) = k by omega]
    · rw [gU_n e, h.1 q hq]
      by_cases z : aw - k ≤ q ∧ q < aw
      · rw [if_pos z, if_pos (by omega)]
      · rw [if_neg z, if_neg (by omega)]
  · rcases h.2 with ⟨a, b⟩ | ⟨a, b⟩
    · rw [b, a, Nat.zero_max]; omega
    · rw [b, Nat.max_eq_left (by omega)]
theorem StI.done {st g : Nat → Nat} {aw mz : Nat} (h : StI st g aw aw mz) (h0 : 0 < aw) (h17 : aw ≤ 17) (hst : ∀ k, k < aw → pkf st k < 4294967296) : NatW g mz (ynum st aw) := by
  have e : mz = aw := by rcases h.2 with ⟨a, b⟩ | ⟨a, b⟩ <;> omega
  rw [e]
  refine ⟨h17, fun k hk => ?_, nv_congr (fun k hk => ?_)⟩
  · rw [h.1 k hk]
    split
    · exact hst _ (by omega)
    · decide
  · rw [h.1 k (by omega), if_pos (by omega)]
/-- way 1: the halves of the tweak, the block, the number that comes -/
def lfB (tb : Nat → Nat) : Nat := pk (tb 0) (tb 1) (tb 2) (tb 3 &&& 240)
def rtB (tb : Nat → Nat) : Nat := pk (tb 4) (tb 5) (tb 6) ((tb 3 &&& 15) * 16)
def twT (tb : Nat → Nat) (i : Nat) : Nat → Nat := fun j => if i % 2 = 0 then [tb 4, tb 5, tb 6, (tb 3 &&& 15) * 16].getD j 0 else [tb 0, tb 1, tb 2, tb 3 &&& 240].getD j 0
def ff3B (tb : Nat → Nat) (i N : Nat) : Nat → Nat := fun j => if j < 12 then N / 256 ^ j % 256 else if j = 12 then twT tb i 3 ^^^ i else twT tb i (15 - j)
def ynum3 (E : Nat → Nat) : Nat := nv (fun k => pk (E (4 * k + 3)) (E (4 * k + 2)) (E (4 * k + 1)) (E (4 * k))) 4
theorem and_f0 {x : Nat} (hx : x < 256) : x &&& 240 < 256 := wz_a8 x (by decide)
theorem lf_word {a b c d : Nat} (ha : a < 256) (hb : b < 256) (hc : c < 256) (hd : d < 256) : pk a b c d &&& 4294967280 = pk a b c (d &&& 240) := by
  rw [show (4294967280 : Nat) = pk 255 255 255 240 from by decide, pkw_anw hb hc hd (by decide) (by decide) (by decide), wz_255, wz_255, wz_255, Nat.mod_eq_of_lt ha, Nat.mod_eq_of_lt hb, Nat.mod_eq_of_lt hc]
theorem rt_word {a b c d e f g h : Nat} (ha : a < 256) (hb : b < 256) (hc : c < 256) (hd : d < 256) (hf : f < 256) (hg : g < 256) (hh : h < 256) : pk a b c d &&& 4294967040 ||| (pk e f g h &&& 15) * 16 = pk a b c ((h &&& 15) * 16) := by
  have z : (0 : Nat) < 256 := by decide
  have e1 : pk e f g h &&& 15 = h &&& 15 := by
    rw [show (15 : Nat) = pk 0 0 0 15 from by decide, pkw_anw hf hg hh z z (by decide)]
    simp only [Nat.and_zero]
    exact (pkw_e3 _).symm
  have h16 : h &&& 15 < 16 := Nat.and_lt_two_pow (n := 4) h (by decide)
  have hx : (h &&& 15) * 16 < 256 := by omega
  rw [e1, show (4294967040 : Nat) = pk 255 255 255 0 from by decide, pkw_anw hb hc hd (by decide) (by decide) z, wz_255, wz_255, wz_255, Nat.mod_eq_of_lt ha, Nat.mod_eq_of_lt hb, Nat.mod_eq_of_lt hc, Nat.and_zero]
  have e2 := pkw_e3 ((h &&& 15) * 16)
  conv => lhs; rhs; rw [e2]
  rw [pkw_or hb hc z z z hx]
  simp only [Nat.or_zero, Nat.zero_or]
theorem twT_lt {tb : Nat → Nat} {i : Nat} (h : ∀ j, j < 64 → tb j < 256) : ∀ j, j < 4 → twT tb i j < 256 := by
  intro j hj
  have h16 : tb 3 &&& 15 < 16 := Nat.and_lt_two_pow (n := 4) _ (by decide)
  have h240 : tb 3 &&& 240 < 256 := wz_a8 _ (by decide)
  have hx : (tb 3 &&& 15) * 16 < 256 := by omega
  unfold twT
  split <;> rcases (show j = 0 ∨ j = 1 ∨ j = 2 ∨ j = 3 by omega) with q | q | q | q <;> subst q <;> first | exact h _ (by decide) | exact hx | exact h240
theorem ff3B_lt {tb : Nat → Nat} {i N : Nat} (h : ∀ j, j < 64 → tb j < 256) (hi : i < 256) : ∀ j, j < 16 → ff3B tb i N j < 256 := by
  intro j hj
  unfold ff3B
  split
  · exact Nat.mod_lt _ (by decide)
  · split
    · exact wz_x8 (twT_lt h 3 (by decide)) hi
    · exact twT_lt h _ (by omega)
/-- the three words of the number, their bytes turned round -/
theorem ff3_w {tb : Nat → Nat} {i N k : Nat} (hk : k < 3) : pk (N / 256 ^ (4 * k) % 256) (N / 256 ^ (4 * k + 1) % 256) (N / 256 ^ (4 * k + 2) % 256) (N / 256 ^ (4 * k + 3) % 256) = pkf (ff3B tb i N) k := by
  unfold pkf ff3B
  rw [if_pos (by omega), if_pos (by omega), if_pos (by omega), if_pos (by omega)]
theorem ff3_x {tb : Nat → Nat} {i : Nat} (h : ∀ j, j < 64 → tb j < 256) (hi : i < 256) : (if i % 2 = 0 then rtB tb else lfB tb) ^^^ i = pk (twT tb i 0) (twT tb i 1) (twT tb i 2) (twT tb i 3 ^^^ i) := by
  have z : (0 : Nat) < 256 := by decide
  have h16 : tb 3 &&& 15 < 16 := Nat.and_lt_two_pow (n := 4) _ (by decide)
  have hx : (tb 3 &&& 15) * 16 < 256 := by omega
  have h240 : tb 3 &&& 240 < 256 := wz_a8 _ (by decide)
  have e := pkw_e3 i
  conv => lhs; rhs; rw [e]
  unfold twT rtB lfB
  by_cases q : i % 2 = 0
  · simp only [if_pos q]
    rw [pkw_xor (h 5 (by decide)) (h 6 (by decide)) hx z z hi]
    simp only [Nat.xor_zero]
    rfl
  · simp only [if_neg q]
    rw [pkw_xor (h 1 (by decide)) (h 2 (by decide)) h240 z z hi]
    simp only [Nat.xor_zero]
    rfl
theorem ff3_l (tb : Nat → Nat) (i N : Nat) : pk (twT tb i 3 ^^^ i) (twT tb i 2) (twT tb i 1) (twT tb i 0) = pkf (ff3B tb i N) 3 := rfl
/-- the words laid from the lowest up -/
def UpI (y g : Nat → Nat) (k mz : Nat) : Prop := (∀ q, q < 17 → g q = if q < k then y q else 0) ∧ mz = k
theorem UpI.start {y g : Nat → Nat} (h : ∀ q, q < 17 → g q = 0) : UpI y g 0 0 := ⟨fun q hq => by rw [h q hq, if_neg (Nat.not_lt_zero q)], rfl⟩
theorem UpI.step {y g : Nat → Nat} {k mz v : Nat} (h : UpI y g k mz) (hv : v = y k) : UpI y (gU g k v) (k + 1) (max mz (k + 1)) := ⟨fl_s h.1 hv, by rw [h.2, Nat.max_eq_right (Nat.le_succ k)]⟩
theorem UpI.done {y g : Nat → Nat} {k mz : Nat} (h : UpI y g k mz) (hk : k ≤ 17) (hy : ∀ q, q < k → y q < 4294967296) : NatW g mz (nv y k) := by
  rw [h.2]
  refine ⟨hk, fun q hq => ?_, nv_congr (fun q hq => ?_)⟩
  · rw [h.1 q hq]
    split
    · exact hy q (by omega)
    · decide
  · rw [h.1 q (by omega), if_pos hq]
/-! The rounds: a half is read, what comes of it is added to the other one, in its place. -/
def rdx (bk R k : Nat) : Nat := if bk = 0 then k else R - 1 - k
def ixP (lf fr ln q : Nat) : Nat := if lf = 0 then fr + ln - 1 - q else q - fr
def shF (lf fr ln bk bs Y : Nat) (f : Nat → Nat) : Nat → Nat := fun q => if fr ≤ q ∧ q < fr + ln then shR bk bs Y (fun j => f (plc lf fr ln j)) (ixP lf fr ln q) else f q
theorem ixP_plc {lf fr ln q : Nat} (h1 : fr ≤ q) (h2 : q < fr + ln) : ixP lf fr ln q < ln ∧ plc lf fr ln (ixP lf fr ln q) = q := by
  unfold ixP plc
  split <;> omega
theorem ShI.eq {lf fr ln bk bs Y : Nat} {f g : Nat → Nat} (h : ShI lf fr ln bk bs Y f g ln) : g = shF lf fr ln bk bs Y f := by
  funext q
  unfold shF
  by_cases e : fr ≤ q ∧ q < fr + ln
  · rw [if_pos e]
    obtain ⟨a, b⟩ := ixP_plc (lf := lf) e.1 e.2
    have := h.1 _ a
    rw [b] at this
    exact this
  · rw [if_neg e]
    exact h.2 q (fun k hk z => e (by have := plc_in (lf := lf) (fr := fr) hk; omega))
theorem shF_lt {lf fr ln bk bs Y n : Nat} {f : Nat → Nat} (hb : 0 < bs) (hn : fr + ln ≤ n) (h : ∀ q, q < n → f q < bs) : ∀ q, q < n → shF lf fr ln bk bs Y f q < bs := by
  intro q hq
  unfold shF
  split
  · rename_i e
    obtain ⟨a, b⟩ := ixP_plc (lf := lf) e.1 e.2
    exact shR_lt hb (by show f (plc lf fr ln _) < bs; rw [b]; exact h q hq)
  · exact h q hq
def fei (F : Nat → Nat → Nat) (lf u v bk bs R : Nat) (f0 : Nat → Nat) : Nat → Nat → Nat
  | 0 => f0
  | k + 1 => if rdx bk R k % 2 = 0 then shF lf 0 u bk bs (F (rdx bk R k) (dgv bs (fun q => fei F lf u v bk bs R f0 k (plc lf u v q)) 0 v)) (fei F lf u v bk bs R f0 k) else shF lf u v bk bs (F (rdx bk R k) (dgv bs (fun q => fei F lf u v bk bs R f0 k (plc lf 0 u q)) 0 u)) (fei F lf u v bk bs R f0 k)
theorem fei_lt {F : Nat → Nat → Nat} {lf u v bk bs R : Nat} {f0 : Nat → Nat} (hb : 0 < bs) (h : ∀ q, q < u + v → f0 q < bs) : ∀ k, ∀ q, q < u + v → fei F lf u v bk bs R f0 k q < bs
  | 0 => h
  | k + 1 => by
    intro q hq
    show (if _ then _ else _ : Nat → Nat) q < bs
    split
    · exact shF_lt hb (by omega) (fei_lt hb h k) q hq
    · exact shF_lt hb (by omega) (fei_lt hb h k) q hq
theorem fei_a {F : Nat → Nat → Nat} {lf u v bk bs R k : Nat} {f0 g : Nat → Nat} (e : rdx bk R k % 2 = 0) (h : ShI lf 0 u bk bs (F (rdx bk R k) (dgv bs (fun q => fei F lf u v bk bs R f0 k (plc lf u v q)) 0 v)) (fei F lf u v bk bs R f0 k) g u) : g = fei F lf u v bk bs R f0 (k + 1) := by
  rw [h.eq]
  exact (if_pos e).symm
theorem fei_b {F : Nat → Nat → Nat} {lf u v bk bs R k : Nat} {f0 g : Nat → Nat} (e : rdx bk R k % 2 ≠ 0) (h : ShI lf u v bk bs (F (rdx bk R k) (dgv bs (fun q => fei F lf u v bk bs R f0 k (plc lf 0 u q)) 0 u)) (fei F lf u v bk bs R f0 k) g v) : g = fei F lf u v bk bs R f0 (k + 1) := by
  rw [h.eq]
  exact (if_neg e).symm
def FF1 (W : Nat → Nat) (r bs n tn : Nat) (tb : Nat → Nat) : Nat → Nat → Nat := fun i N => ynum (strF W r (cbcF W r (enc W r (fstB bs (n / 2) n tn)) (msF tb (ff1iw bs n tn) (ff1b bs n) i N) (ff1iw bs n tn / 4))) (ff1aw bs n)
def FF3 (W : Nat → Nat) (r : Nat) (tb : Nat → Nat) : Nat → Nat → Nat := fun i N => ynum3 (enc W r (ff3B tb i N))
theorem ff1_facts {bs n tn : Nat} (hb1 : 1 ≤ bs) (hb2 : bs ≤ 65536) (hn : n ≤ 64) (ht : tn ≤ 32) : ff1b bs n ≤ 64 ∧ ff1iw bs n tn ≤ 28 ∧ ff1rp bs n tn + ff1b bs n + 1 = 4 * ff1iw bs n tn ∧ ff1iw bs n tn % 4 = 0 ∧ 1 ≤ ff1aw bs n ∧ ff1aw bs n ≤ 17 := by
  have h : ff1b bs n ≤ 64 := bl_64 hb1 hb2 (by omega)
  unfold ff1rp ff1aw ff1iw
  omega
