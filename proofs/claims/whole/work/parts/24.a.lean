theorem str_blk {R g : Nat → Nat} {p : Nat} (h : ∀ q, q < 16 → g q = R q) : ∀ q, q < 16 → gU g 15 (R 15 ^^^ p) q = (fun j => R j ^^^ (if j = 15 then p else 0)) q := by
  intro q hq
  show _ = R q ^^^ (if q = 15 then p else 0)
  by_cases e : q = 15
  · rw [e, gU_s, if_pos rfl]
  · rw [gU_n e, h q hq, if_neg e, Nat.xor_zero]
