/-! A block's bytes out of its words. -/
theorem blk_byte {E : Nat → Nat} {k : Nat} (h : ∀ j, j < 16 → E j < 256) (hk : k < 16) : pkf E (k / 4) / 2 ^ (24 - 8 * (k % 4)) &&& 255 = E k := by
  rw [wz_255]
  obtain ⟨c, hc⟩ : ∃ c, c = k / 4 := ⟨_, rfl⟩
  have hb := pkf_b (c := c) h (by omega)
  rw [← hc]
  unfold pkf pk
  obtain ⟨h0, h1, h2, h3⟩ := hb
  rcases (show k % 4 = 0 ∨ k % 4 = 1 ∨ k % 4 = 2 ∨ k % 4 = 3 by omega) with e | e | e | e
  · rw [e, show k = 4 * c by omega, show (2 : Nat) ^ (24 - 8 * 0) = 16777216 from rfl]
    generalize E (4 * c) = x0 at *; generalize E (4 * c + 1) = x1 at *; generalize E (4 * c + 2) = x2 at *; generalize E (4 * c + 3) = x3 at *
    omega
  · rw [e, show k = 4 * c + 1 by omega, show (2 : Nat) ^ (24 - 8 * 1) = 65536 from rfl]
    generalize E (4 * c) = x0 at *; generalize E (4 * c + 1) = x1 at *; generalize E (4 * c + 2) = x2 at *; generalize E (4 * c + 3) = x3 at *
    omega
  · rw [e, show k = 4 * c + 2 by omega, show (2 : Nat) ^ (24 - 8 * 2) = 256 from rfl]
    generalize E (4 * c) = x0 at *; generalize E (4 * c + 1) = x1 at *; generalize E (4 * c + 2) = x2 at *; generalize E (4 * c + 3) = x3 at *
    omega
  · rw [e, show k = 4 * c + 3 by omega, show (2 : Nat) ^ (24 - 8 * 3) = 1 from rfl]
    generalize E (4 * c) = x0 at *; generalize E (4 * c + 1) = x1 at *; generalize E (4 * c + 2) = x2 at *; generalize E (4 * c + 3) = x3 at *
    omega
theorem take_lt {f b : Nat → Nat} {n : Nat} (h : ∀ q, q < 64 → f q = if q < n then b q else 0) (hb : ∀ j, j < 64 → b j < 256) : ∀ j, j < 64 → f j < 256 := fun j hj => by
  rw [h j hj]
  split
  · exact hb j hj
  · decide
