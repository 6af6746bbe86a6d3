/-! The law: what the class's state and the reference's have in common. -/
abbrev gL (bn : Nat) (b0 mb : Nat → Nat) (kn : Nat) (kf kb w1 w2 : Nat → Nat) (tn : Nat) (tb tk : Nat → Nat) (bs n : Nat) (f ro bx : Nat → Nat) : Prop := bn ≤ 64 ∧ (∀ j, j < 64 → b0 j < 256) ∧ (∀ q, q < bn → mb q = b0 q) ∧ (kn = 16 ∨ kn = 24 ∨ kn = 32) ∧ (∀ j, j < 64 → kf j < 256) ∧ (∀ q, q < 32 → kb q < 256) ∧ (∀ q, q < kn → kb q = kf q) ∧ (∀ k, k < 4 * (kn / 4 + 7) → w1 k = pkf (ksS (keyK 0 kf (kn / 4)) (kn / 4) (3 * (kn / 4) + 28)) k) ∧ (∀ k, k < 4 * (kn / 4 + 7) → w2 k = pkf (ksS (keyK 1 kf (kn / 4)) (kn / 4) (3 * (kn / 4) + 28)) k) ∧ tn ≤ 32 ∧ (∀ j, j < 64 → tb j < 256) ∧ (∀ j, tn ≤ j → j < 64 → tb j = 0) ∧ (∀ j, j < tn → tk j = tb j) ∧ 2 ≤ bs ∧ bs ≤ 65536 ∧ n ≤ 64 ∧ (∀ q, q < n → f q < bs) ∧ (∀ q, q < n → ro q = f q) ∧ (∀ q, q < 256 → bx q = sB q)
theorem ty_lt {V by' n : Nat} {b g : Nat → Nat} (h : ∀ q, q < 64 → g q = tyF V by' n b q) (hb : ∀ j, j < 64 → b j < 256) : ∀ j, j < 64 → g j < 256 := fun j hj => by
  rw [h j hj]
  unfold tyF
  split
  · exact byt_lt _ _
  · exact hb j hj
theorem ty_eq {V by' n : Nat} {b g b' g' : Nat → Nat} (h : ∀ q, q < 64 → g q = tyF V by' n b q) (h' : ∀ q, q < 64 → g' q = tyF V by' n b' q) (hb : ∀ q, q < by' → b' q = b q) (hn : by' + n ≤ 64) : ∀ q, q < by' + n → g' q = g q := fun q hq => by
  rw [h q (by omega), h' q (by omega)]
  unfold tyF
  by_cases e : by' ≤ q ∧ q < by' + n
  · rw [if_pos e, if_pos e]
  · rw [if_neg e, if_neg e, hb q (by omega)]
theorem lt_if {f b k : Nat → Nat} {n : Nat} (h : ∀ q, q < 32 → f q = if q < n then b q else k q) (hb : ∀ q, q < n → b q < 256) (hk : ∀ q, q < 32 → k q < 256) : ∀ q, q < 32 → f q < 256 := fun q hq => by
  rw [h q hq]
  split
  · exact hb q (by omega)
  · exact hk q hq
theorem eq_if {f b k g b' : Nat → Nat} {n : Nat} (h : ∀ q, q < 32 → f q = if q < n then b q else k q) (h' : ∀ q, q < 64 → g q = if q < n then b' q else 0) (hb : ∀ q, q < n → b q = b' q) (hn : n ≤ 32) : ∀ q, q < n → f q = g q := fun q hq => by
  rw [h q (by omega), h' q (by omega), if_pos hq, if_pos hq, hb q hq]
theorem zero_if {g b' : Nat → Nat} {n : Nat} (h' : ∀ q, q < 64 → g q = if q < n then b' q else 0) : ∀ j, n ≤ j → j < 64 → g j = 0 := fun j h1 h2 => by rw [h' j h2, if_neg (by omega)]
theorem blk_lt {g E b : Nat → Nat} (h : ∀ q, q < 64 → g q = if q < 16 then E q else b q) (hE : ∀ j, j < 16 → E j < 256) (hb : ∀ j, j < 64 → b j < 256) : ∀ j, j < 64 → g j < 256 := fun j hj => by
  rw [h j hj]
  split
  · exact hE j (by omega)
  · exact hb j hj
theorem blk_eq {g g' E b b' : Nat → Nat} {n : Nat} (hn : n = 16) (h : ∀ q, q < 64 → g q = if q < 16 then E q else b q) (h' : ∀ q, q < 64 → g' q = if q < 16 then E q else b' q) : ∀ q, q < n → g' q = g q := fun q hq => by rw [h q (by omega), h' q (by omega), if_pos (by omega), if_pos (by omega)]
theorem num_lt {f : Nat → Nat} {n bs v : Nat} (h : ∀ q, q < n → f q < bs) (hv : v < bs) : ∀ q, q < n + 1 → gU f n v q < bs := lt_ext (P := fun _ z => z < bs) h hv
theorem num_eq {f ro : Nat → Nat} {n v : Nat} (h : ∀ q, q < n → ro q = f q) : ∀ q, q < n + 1 → gU ro n v q = gU f n v q := fun q hq => by
  by_cases e : q = n
  · rw [e, gU_s, gU_s]
  · rw [gU_n e, gU_n e, h q (by omega)]
theorem set_lt {f : Nat → Nat} {n bs i v : Nat} (h : ∀ q, q < n → f q < bs) (hv : v < bs) : ∀ q, q < n → gU f i v q < bs := fun q hq => by
  by_cases e : q = i
  · rw [e, gU_s]; exact hv
  · rw [gU_n e]; exact h q hq
theorem set_eq {f ro : Nat → Nat} {n i v : Nat} (h : ∀ q, q < n → ro q = f q) : ∀ q, q < n → gU ro i v q = gU f i v q := fun q hq => by
  by_cases e : q = i
  · rw [e, gU_s, gU_s]
  · rw [gU_n e, gU_n e, h q hq]
/-- the words of both sides' keys -/
theorem key_W {kf : Nat → Nat} {kn t : Nat} (hk : kn = 16 ∨ kn = 24 ∨ kn = 32) (hkf : ∀ j, j < 64 → kf j < 256) : ∀ j, j < 16 * (kn / 4 + 6 + 1) → ksS (keyK t kf (kn / 4)) (kn / 4) (3 * (kn / 4) + 28) j < 256 := fun j hj => ksS_lt (w := kn / 4) (by omega) (keyK_lt (t := t) (w := kn / 4) (b := kf) (by omega) hkf) (3 * (kn / 4) + 28) j (by omega)
theorem key_eq {kf kb : Nat → Nat} {kn t : Nat} (hk : kn = 16 ∨ kn = 24 ∨ kn = 32) (h : ∀ q, q < kn → kb q = kf q) : ∀ q, q < 16 * (kn / 4 + 7) → ksS (keyK t kb (kn / 4)) (kn / 4) (3 * (kn / 4) + 28) q = ksS (keyK t kf (kn / 4)) (kn / 4) (3 * (kn / 4) + 28) q := fun q hq => ksS_congr (by omega) (fun z hz => by
  unfold keyK
  split
  · exact h _ (by omega)
  · exact h _ (by omega)) _ q (by omega)
theorem key_w {w kf : Nat → Nat} {kn t : Nat} (h : ∀ k, k < 4 * (kn / 4 + 7) → w k = pkf (ksS (keyK t kf (kn / 4)) (kn / 4) (3 * (kn / 4) + 28)) k) : ∀ k, k < 4 * (kn / 4 + 6 + 1) → w k = pkf (ksS (keyK t kf (kn / 4)) (kn / 4) (3 * (kn / 4) + 28)) k := fun k hk => h k (by omega)
theorem nI_fr {y : Int32} (h : 0 ≤ y.toInt) : y = nI y.toInt.toNat := by
  apply Int32.toInt_inj.mp
  have h2 := Int32.toInt_lt y
  rw [nI_toInt (by omega)]
  omega
theorem lN_of (x : Int64) : ∃ V, V < 18446744073709551616 ∧ x = lN V := ⟨x.toBitVec.toNat, x.toBitVec.isLt, by
  apply Int64.toBitVec_inj.mp
  show x.toBitVec = BitVec.ofNat 64 x.toBitVec.toNat
  rw [BitVec.ofNat_toNat, BitVec.setWidth_eq]⟩
theorem nI_all (x : Int32) : x = nI x.toBitVec.toNat := by
  apply Int32.toBitVec_inj.mp
  show x.toBitVec = BitVec.ofNat 32 x.toBitVec.toNat
  rw [BitVec.ofNat_toNat, BitVec.setWidth_eq]
