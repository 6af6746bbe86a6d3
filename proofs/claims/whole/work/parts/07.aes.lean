/-! The block cipher, in bytes. -/
def pkf (f : Nat → Nat) (c : Nat) : Nat := pk (f (4 * c)) (f (4 * c + 1)) (f (4 * c + 2)) (f (4 * c + 3))
def subR (B : Nat → Nat) : Nat → Nat := fun j => sB (B (4 * ((j / 4 + j % 4) % 4) + j % 4))
def mixR (M : Nat → Nat) : Nat → Nat := fun j => mxB (M (4 * (j / 4) + j % 4)) (M (4 * (j / 4) + (j % 4 + 1) % 4)) (M (4 * (j / 4) + (j % 4 + 2) % 4)) (M (4 * (j / 4) + (j % 4 + 3) % 4))
def rdF (W : Nat → Nat) (r i : Nat) (B : Nat → Nat) : Nat → Nat := fun j => (if i < r then mixR (subR B) j else subR B j) ^^^ W (16 * i + j)
def encI (W : Nat → Nat) (r : Nat) (B : Nat → Nat) : Nat → Nat → Nat
  | 0 => fun j => B j ^^^ W j
  | i + 1 => rdF W r (i + 1) (encI W r B i)
theorem subR_lt {B : Nat → Nat} (h : ∀ j, j < 16 → B j < 256) : ∀ j, j < 16 → subR B j < 256 := fun j hj => sB_lt _ (h _ (by omega))
theorem mixR_lt {M : Nat → Nat} (h : ∀ j, j < 16 → M j < 256) : ∀ j, j < 16 → mixR M j < 256 := fun j hj => mxB_lt (h _ (by omega)) (h _ (by omega)) (h _ (by omega)) (h _ (by omega))
theorem rdF_lt {W B : Nat → Nat} {r i : Nat} (hW : ∀ j, j < 16 → W (16 * i + j) < 256) (h : ∀ j, j < 16 → B j < 256) : ∀ j, j < 16 → rdF W r i B j < 256 := by
  intro j hj
  unfold rdF
  refine wz_x8 ?_ (hW j hj)
  split
  · exact mixR_lt (subR_lt h) j hj
  · exact subR_lt h j hj
theorem encI_lt {W B : Nat → Nat} {r : Nat} (hW : ∀ j, j < 16 * (r + 1) → W j < 256) (h : ∀ j, j < 16 → B j < 256) : ∀ i, i ≤ r → ∀ j, j < 16 → encI W r B i j < 256
  | 0, _, j, hj => wz_x8 (h j hj) (hW j (by omega))
  | i + 1, hi, j, hj => rdF_lt (fun j hj => hW _ (by omega)) (encI_lt hW h i (by omega)) j hj
/-- the four bytes of a word, each below 256 -/
theorem pkf_b {f : Nat → Nat} {n c : Nat} (h : ∀ j, j < n → f j < 256) (hc : 4 * c + 3 < n) : f (4 * c) < 256 ∧ f (4 * c + 1) < 256 ∧ f (4 * c + 2) < 256 ∧ f (4 * c + 3) < 256 := ⟨h _ (by omega), h _ (by omega), h _ (by omega), h _ (by omega)⟩
theorem pkf_lt {f : Nat → Nat} {n c : Nat} (h : ∀ j, j < n → f j < 256) (hc : 4 * c + 3 < n) : pkf f c < 4294967296 := by
  obtain ⟨h0, h1, h2, h3⟩ := pkf_b h hc
  exact pkw_lt h0 h1 h2 h3
theorem pkf_xor {f g : Nat → Nat} {c d : Nat} (hf : f (4 * c + 1) < 256 ∧ f (4 * c + 2) < 256 ∧ f (4 * c + 3) < 256) (hg : g (4 * d + 1) < 256 ∧ g (4 * d + 2) < 256 ∧ g (4 * d + 3) < 256) : pkf f c ^^^ pkf g d = pk (f (4 * c) ^^^ g (4 * d)) (f (4 * c + 1) ^^^ g (4 * d + 1)) (f (4 * c + 2) ^^^ g (4 * d + 2)) (f (4 * c + 3) ^^^ g (4 * d + 3)) := pkw_xor hf.1 hf.2.1 hf.2.2 hg.1 hg.2.1 hg.2.2
theorem pkf_sub (B : Nat → Nat) {c : Nat} (hc : c < 4) : pk (sB (B (4 * c))) (sB (B (4 * ((c + 1) % 4) + 1))) (sB (B (4 * ((c + 2) % 4) + 2))) (sB (B (4 * ((c + 3) % 4) + 3))) = pkf (subR B) c := by
  unfold pkf subR
  have e : ∀ k, k < 4 → (4 * c + k) / 4 = c ∧ (4 * c + k) % 4 = k := fun k hk => by omega
  have e0 := e 0 (by decide)
  rw [(e 1 (by decide)).1, (e 1 (by decide)).2, (e 2 (by decide)).1, (e 2 (by decide)).2, (e 3 (by decide)).1, (e 3 (by decide)).2]
  rw [Nat.add_zero] at e0
  rw [e0.1, e0.2, show (c + 0) % 4 = c by omega]
  rfl
theorem pkf_mix (M : Nat → Nat) (c : Nat) : pk (mxB (M (4 * c)) (M (4 * c + 1)) (M (4 * c + 2)) (M (4 * c + 3))) (mxB (M (4 * c + 1)) (M (4 * c + 2)) (M (4 * c + 3)) (M (4 * c))) (mxB (M (4 * c + 2)) (M (4 * c + 3)) (M (4 * c)) (M (4 * c + 1))) (mxB (M (4 * c + 3)) (M (4 * c)) (M (4 * c + 1)) (M (4 * c + 2))) = pkf (mixR M) c := by
  unfold pkf mixR
  have e : ∀ k, k < 4 → (4 * c + k) / 4 = c ∧ (4 * c + k) % 4 = k := fun k hk => by omega
  have e0 := e 0 (by decide)
  rw [(e 1 (by decide)).1, (e 1 (by decide)).2, (e 2 (by decide)).1, (e 2 (by decide)).2, (e 3 (by decide)).1, (e 3 (by decide)).2]
  rw [Nat.add_zero] at e0
  rw [e0.1, e0.2]
  rfl
/-- a round of the class's, word by word -/
theorem pkf_rd {W B : Nat → Nat} {r i c : Nat} (hc : c < 4) (hW : ∀ j, j < 16 → W (16 * i + j) < 256) (hB : ∀ j, j < 16 → B j < 256) : (if i < r then pkf (mixR (subR B)) c else pkf (subR B) c) ^^^ pkf W (4 * i + c) = pkf (rdF W r i B) c := by
  have w1 : ∀ k, k < 4 → W (4 * (4 * i + c) + k) = W (16 * i + (4 * c + k)) := fun k _ => by congr 1; omega
  have w0 : W (4 * (4 * i + c)) = W (16 * i + 4 * c) := by congr 1; omega
  have hw : W (4 * (4 * i + c) + 1) < 256 ∧ W (4 * (4 * i + c) + 2) < 256 ∧ W (4 * (4 * i + c) + 3) < 256 := ⟨by rw [w1 1 (by decide)]; exact hW _ (by omega), by rw [w1 2 (by decide)]; exact hW _ (by omega), by rw [w1 3 (by decide)]; exact hW _ (by omega)⟩
  have hs := pkf_b (c := c) (subR_lt hB) (by omega)
  have hm := pkf_b (c := c) (mixR_lt (subR_lt hB)) (by omega)
  by_cases h : i < r
  · rw [if_pos h, pkf_xor ⟨hm.2.1, hm.2.2.1, hm.2.2.2⟩ hw, w0, w1 1 (by decide), w1 2 (by decide), w1 3 (by decide)]
    unfold pkf rdF
    simp only [if_pos h]
  · rw [if_neg h, pkf_xor ⟨hs.2.1, hs.2.2.1, hs.2.2.2⟩ hw, w0, w1 1 (by decide), w1 2 (by decide), w1 3 (by decide)]
    unfold pkf rdF
    simp only [if_neg h]
/-- rows that are filled place by place -/
theorem fl_0 {n : Nat} {b N O : Nat → Nat} (h : ∀ k, k < n → b k = O k) : ∀ k, k < n → b k = if k < 0 then N k else O k := fun k hk => by rw [if_neg (Nat.not_lt_zero k)]; exact h k hk
theorem fl_s {n i v : Nat} {b N O : Nat → Nat} (h : ∀ k, k < n → b k = if k < i then N k else O k) (hv : v = N i) : ∀ k, k < n → gU b i v k = if k < i + 1 then N k else O k := by
  intro k hk
  by_cases e : k = i
  · rw [e, gU_s, if_pos (Nat.lt_succ_self i), hv]
  · rw [gU_n e, h k hk]
    by_cases q : k < i
    · rw [if_pos q, if_pos (by omega)]
    · rw [if_neg q, if_neg (by omega)]
theorem fl_e {n : Nat} {b N O : Nat → Nat} (h : ∀ k, k < n → b k = if k < n then N k else O k) : ∀ k, k < n → b k = N k := fun k hk => by rw [h k hk, if_pos hk]
theorem fl_hi {n i : Nat} {b N O : Nat → Nat} (h : ∀ k, k < n → b k = if k < i then N k else O k) {k : Nat} (hk : k < n) (hi : i ≤ k) : b k = O k := by rw [h k hk, if_neg (by omega)]
theorem fl_lo {n i : Nat} {b N O : Nat → Nat} (h : ∀ k, k < n → b k = if k < i then N k else O k) {k : Nat} (hk : k < n) (hi : k < i) : b k = N k := by rw [h k hk, if_pos hi]
theorem pkf_x0 {W B : Nat → Nat} {r c : Nat} (hB : ∀ j, j < 16 → B j < 256) (hW : ∀ j, j < 16 * (r + 1) → W j < 256) (hc : c < 4) : pkf B c ^^^ pkf W c = pkf (encI W r B 0) c := by
  have h1 := pkf_b (c := c) hB (by omega)
  have h2 := pkf_b (c := c) hW (by omega)
  exact pkf_xor ⟨h1.2.1, h1.2.2.1, h1.2.2.2⟩ ⟨h2.2.1, h2.2.2.1, h2.2.2.2⟩
