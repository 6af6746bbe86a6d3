/-! Numbers of words, of bytes, of numerals. -/
/-- the number that the first n words are, the lowest first -/
def nv (f : Nat → Nat) : Nat → Nat
  | 0 => 0
  | n + 1 => nv f n + f n * 4294967296 ^ n
theorem nv_congr {f g : Nat → Nat} : ∀ {n : Nat}, (∀ k, k < n → f k = g k) → nv f n = nv g n
  | 0, _ => rfl
  | n + 1, h => by
    show nv f n + f n * _ = nv g n + g n * _
    rw [nv_congr (fun k hk => h k (by omega)), h n (by omega)]
theorem nv_lt {f : Nat → Nat} : ∀ {n : Nat}, (∀ k, k < n → f k < 4294967296) → nv f n < 4294967296 ^ n
  | 0, _ => by show 0 < 1; decide
  | n + 1, h => by
    have h1 := nv_lt (n := n) (fun k hk => h k (by omega))
    have h2 : f n + 1 ≤ 4294967296 := h n (by omega)
    have h3 := Nat.mul_le_mul_right (4294967296 ^ n) h2
    rw [Nat.add_mul, Nat.one_mul] at h3
    show nv f n + f n * 4294967296 ^ n < 4294967296 ^ (n + 1)
    rw [Nat.pow_succ, Nat.mul_comm (4294967296 ^ n)]
    omega
theorem nv_0 {f : Nat → Nat} : ∀ {n : Nat}, (∀ k, k < n → f k = 0) → nv f n = 0
  | 0, _ => rfl
  | n + 1, h => by
    show nv f n + f n * _ = 0
    rw [nv_0 (fun k hk => h k (by omega)), h n (by omega), Nat.zero_mul]
/-- a number by its words: n words, none of them too large, no highest one that is 0 -/
def NatOk (f : Nat → Nat) (n v : Nat) : Prop := n ≤ 17 ∧ (∀ k, k < 17 → f k < 4294967296) ∧ nv f n = v ∧ (n = 0 ∨ 4294967296 ^ (n - 1) ≤ v)
/-- the same, but that a highest word may be 0 -/
def NatW (f : Nat → Nat) (n v : Nat) : Prop := n ≤ 17 ∧ (∀ k, k < 17 → f k < 4294967296) ∧ nv f n = v
theorem NatOk.w {f : Nat → Nat} {n v : Nat} (h : NatOk f n v) : NatW f n v := ⟨h.1, h.2.1, h.2.2.1⟩
/-- so many bytes has a number -/
def IsBl (v k : Nat) : Prop := v < 256 ^ k ∧ (k = 0 ∨ 256 ^ (k - 1) ≤ v)
theorem IsBl.uniq {v k j : Nat} (h : IsBl v k) (g : IsBl v j) : k = j := by
  have aux : ∀ {k j : Nat}, v < 256 ^ k → (j = 0 ∨ 256 ^ (j - 1) ≤ v) → j ≤ k := by
    intro k j h g
    rcases Nat.lt_or_ge k j with q | q
    · rcases g with g | g
      · omega
      · have := Nat.pow_le_pow_right (show 256 > 0 by decide) (show k ≤ j - 1 by omega)
        omega
    · exact q
  exact Nat.le_antisymm (aux g.1 h.2) (aux h.1 g.2)
/-- the words of a multiplication, i of them done -/
def MulI (f g : Nat → Nat) (F A i cr : Nat) : Prop := nv g i + cr * 4294967296 ^ i = nv f i * F + A ∧ (∀ k, i ≤ k → g k = f k) ∧ (∀ k, k < 17 → g k < 4294967296) ∧ cr < F
theorem MulI.start {f : Nat → Nat} {F A : Nat} (hf : ∀ k, k < 17 → f k < 4294967296) (hA : A < F) : MulI f f F A 0 A := ⟨by show 0 + A * 1 = 0 * F + A; omega, fun _ _ => rfl, hf, hA⟩
theorem nv_gU {g : Nat → Nat} {i v n : Nat} (h : n ≤ i) : nv (gU g i v) n = nv g n := nv_congr (fun k hk => gU_n (by omega))
theorem MulI.step {f g : Nat → Nat} {F A i cr : Nat} (h : MulI f g F A i cr) (hi : i < 17) : MulI f (gU g i ((f i * F + cr) % 4294967296)) F A (i + 1) ((f i * F + cr) / 4294967296) := by
  obtain ⟨h1, h2, h3, h4⟩ := h
  have hfi : f i < 4294967296 := by rw [← h2 i (Nat.le_refl i)]; exact h3 i hi
  refine ⟨?_, ?_, ?_, ?_⟩
  · show nv (gU g i _) i + gU g i _ i * 4294967296 ^ i + _ = (nv f i + f i * 4294967296 ^ i) * F + A
    rw [nv_gU (Nat.le_refl i), gU_s, Nat.pow_succ]
    have e := Nat.div_add_mod (f i * F + cr) 4294967296
    have e2 : (f i * F + cr) % 4294967296 * 4294967296 ^ i + (f i * F + cr) / 4294967296 * (4294967296 ^ i * 4294967296) = (f i * F + cr) * 4294967296 ^ i := by
      conv => rhs; rw [← e]
      rw [Nat.add_mul, Nat.add_comm]
      congr 1
      rw [Nat.mul_comm (4294967296 ^ i) 4294967296, ← Nat.mul_assoc, Nat.mul_comm 4294967296]
    rw [Nat.add_assoc, e2, Nat.add_mul, Nat.add_mul, Nat.mul_right_comm]
    omega
  · intro k hk
    rw [gU_n (by omega)]
    exact h2 k (by omega)
  · intro k hk
    by_cases e : k = i
    · rw [e, gU_s]; exact Nat.mod_lt _ (by decide)
    · rw [gU_n e]; exact h3 k hk
  · have h5 : (f i + 1) * F ≤ 4294967296 * F := Nat.mul_le_mul_right F hfi
    rw [Nat.add_mul, Nat.one_mul] at h5
    refine Nat.div_lt_of_lt_mul ?_
    omega
theorem MulI.bound {f g : Nat → Nat} {F A i cr : Nat} (h : MulI f g F A i cr) (hi : i < 17) (hF : F ≤ 65536) : f i * F + cr < 9223372036854775808 := by
  obtain ⟨h1, h2, h3, h4⟩ := h
  have hfi : f i < 4294967296 := by rw [← h2 i (Nat.le_refl i)]; exact h3 i hi
  have h5 : f i * F ≤ 4294967296 * 65536 := Nat.mul_le_mul (Nat.le_of_lt hfi) hF
  omega
/-- behind the loop: nothing carried -/
theorem MulI.end0 {f g : Nat → Nat} {F A n v : Nat} (h : MulI f g F A n 0) (hn : NatOk f n v) (hF : 1 ≤ F) : NatOk g n (v * F + A) := by
  obtain ⟨a, b, c, d⟩ := hn
  obtain ⟨h1, h2, h3, h4⟩ := h
  refine ⟨a, h3, by rw [Nat.zero_mul, Nat.add_zero, c] at h1; exact h1, ?_⟩
  rcases d with d | d
  · exact Or.inl d
  · refine Or.inr (Nat.le_trans d ?_)
    have := Nat.mul_le_mul_left v hF
    omega
/-- behind the loop: one word more -/
theorem MulI.end1 {f g : Nat → Nat} {F A n v cr : Nat} (h : MulI f g F A n cr) (hn : NatOk f n v) (hc : 0 < cr) (hF : F ≤ 65536) (h17 : n < 17) : NatOk (gU g n cr) (n + 1) (v * F + A) := by
  obtain ⟨a, b, c, d⟩ := hn
  obtain ⟨h1, h2, h3, h4⟩ := h
  rw [c] at h1
  refine ⟨h17, ?_, ?_, Or.inr ?_⟩
  · intro k hk
    by_cases e : k = n
    · rw [e, gU_s]; omega
    · rw [gU_n e]; exact h3 k hk
  · show nv (gU g n cr) n + gU g n cr n * _ = _
    rw [nv_gU (Nat.le_refl n), gU_s]
    exact h1
  · rw [Nat.add_sub_cancel]
    have := Nat.mul_le_mul_right (4294967296 ^ n) (show 1 ≤ cr from hc)
    omega
theorem NatOk.empty {f : Nat → Nat} (h : ∀ k, k < 17 → f k = 0) : NatOk f 0 0 := ⟨by decide, fun k hk => by rw [h k hk]; decide, rfl, Or.inl rfl⟩
/-- a word is behind the highest only where the number is that large -/
theorem NatOk.room {f : Nat → Nat} {n v m : Nat} (h : NatOk f n v) (hv : v < 4294967296 ^ m) : n ≤ m := by
  obtain ⟨a, b, c, d⟩ := h
  rcases d with d | d
  · omega
  · rcases Nat.lt_or_ge m n with q | q
    · have := Nat.pow_le_pow_right (show 4294967296 > 0 by decide) (show m ≤ n - 1 by omega)
      omega
    · exact q
theorem MulI.n17 {f g : Nat → Nat} {F A n v cr : Nat} (h : MulI f g F A n cr) (hn : NatOk f n v) (hc : 0 < cr) (hv : v * F + A < 4294967296 ^ 17) : n < 17 := by
  obtain ⟨h1, h2, h3, h4⟩ := h
  obtain ⟨a, b, e, d⟩ := hn
  rcases Nat.lt_or_ge n 17 with q | q
  · exact q
  · have e17 : n = 17 := by omega
    subst e17
    rw [e] at h1
    have := Nat.mul_le_mul_right (4294967296 ^ 17) (show 1 ≤ cr from hc)
    omega
/-- the words from place j on, m of them -/
def hv (f : Nat → Nat) (j : Nat) : Nat → Nat
  | 0 => 0
  | m + 1 => hv f j m + f (j + m) * 4294967296 ^ m
theorem hv_nv (f : Nat → Nat) : ∀ n, hv f 0 n = nv f n
  | 0 => rfl
  | n + 1 => by
    show hv f 0 n + f (0 + n) * _ = nv f n + f n * _
    rw [hv_nv f n, Nat.zero_add]
theorem hv_low (f : Nat → Nat) (j : Nat) : ∀ m, hv f j (m + 1) = f j + 4294967296 * hv f (j + 1) m
  | 0 => by
    show 0 + f (j + 0) * 1 = f j + 4294967296 * 0
    rw [Nat.add_zero]; omega
  | m + 1 => by
    show hv f j (m + 1) + f (j + (m + 1)) * 4294967296 ^ (m + 1) = f j + 4294967296 * (hv f (j + 1) m + f (j + 1 + m) * 4294967296 ^ m)
    rw [hv_low f j m, Nat.mul_add, Nat.pow_succ, show j + (m + 1) = j + 1 + m by omega, Nat.mul_comm (4294967296 ^ m) 4294967296, Nat.mul_left_comm, Nat.add_assoc]
theorem hv_congr {f g : Nat → Nat} {j : Nat} : ∀ {m : Nat}, (∀ k, j ≤ k → k < j + m → f k = g k) → hv f j m = hv g j m
  | 0, _ => rfl
  | m + 1, h => by
    show hv f j m + f (j + m) * _ = hv g j m + g (j + m) * _
    rw [hv_congr (fun k h1 h2 => h k h1 (by omega)), h (j + m) (by omega) (by omega)]
/-- a division, down to place j -/
def DivI (f g : Nat → Nat) (n d j r : Nat) : Prop := hv f j (n - j) = d * hv g j (n - j) + r ∧ r < d ∧ (∀ k, k < j → g k = f k) ∧ (∀ k, k < 17 → g k < 4294967296)
theorem DivI.start {f : Nat → Nat} {n d : Nat} (hd : 0 < d) (hf : ∀ k, k < 17 → f k < 4294967296) : DivI f f n d n 0 := ⟨by rw [Nat.sub_self]; show 0 = d * 0 + 0; omega, hd, fun _ _ => rfl, hf⟩
theorem DivI.step {f g : Nat → Nat} {n d j r : Nat} (h : DivI f g n d (j + 1) r) (hj : j < n) (hn : n ≤ 17) : DivI f (gU g j ((r * 4294967296 + f j) / d)) n d j ((r * 4294967296 + f j) % d) := by
  obtain ⟨h1, h2, h3, h4⟩ := h
  have hd : 0 < d := by omega
  have hfj : f j < 4294967296 := by rw [← h3 j (Nat.lt_succ_self j)]; exact h4 j (by omega)
  refine ⟨?_, Nat.mod_lt _ hd, ?_, ?_⟩
  · obtain ⟨m, hm⟩ : ∃ m, n - j = m + 1 := ⟨n - j - 1, by omega⟩
    have hm2 : n - (j + 1) = m := by omega
    rw [hm2] at h1
    rw [hm, hv_low, hv_low, gU_s, hv_congr (f := gU g j _) (g := g) (fun k a b => gU_n (by omega)), h1]
    have e := Nat.div_add_mod (r * 4294967296 + f j) d
    rw [Nat.mul_add, Nat.mul_add, Nat.mul_left_comm 4294967296 d]
    omega
  · intro k hk
    rw [gU_n (by omega)]
    exact h3 k (by omega)
  · intro k hk
    by_cases e : k = j
    · rw [e, gU_s]
      refine Nat.div_lt_of_lt_mul ?_
      have := Nat.mul_le_mul_right 4294967296 (show r + 1 ≤ d from h2)
      rw [Nat.add_mul] at this
      omega
    · rw [gU_n e]; exact h4 k hk
theorem DivI.bound {f g : Nat → Nat} {n d j r : Nat} (h : DivI f g n d (j + 1) r) (hj : j < 17) (hd : d ≤ 65536) : f j < 4294967296 ∧ r < 65536 ∧ r * 4294967296 + f j < 9223372036854775808 := by
  obtain ⟨h1, h2, h3, h4⟩ := h
  have hfj : f j < 4294967296 := by rw [← h3 j (Nat.lt_succ_self j)]; exact h4 j hj
  omega
theorem DivI.done {f g : Nat → Nat} {n d r v : Nat} (h : DivI f g n d 0 r) (hn : NatW f n v) : nv g n = v / d ∧ r = v % d := by
  obtain ⟨h1, h2, -, -⟩ := h
  rw [Nat.sub_zero, hv_nv, hv_nv, hn.2.2] at h1
  have hd : 0 < d := by omega
  have e : v / d = nv g n := by
    rw [h1, Nat.add_comm, Nat.add_mul_div_left _ _ hd, Nat.div_eq_of_lt h2, Nat.zero_add]
  refine ⟨e.symm, ?_⟩
  rw [h1, Nat.mul_add_mod, Nat.mod_eq_of_lt h2]
theorem nv_strip {g : Nat → Nat} {m : Nat} (h : g m = 0) : nv g (m + 1) = nv g m := by
  show nv g m + g m * _ = _
  rw [h, Nat.zero_mul, Nat.add_zero]
theorem nv_top {g : Nat → Nat} {m : Nat} (h : g m ≠ 0) : 4294967296 ^ m ≤ nv g (m + 1) := by
  show _ ≤ nv g m + g m * _
  have := Nat.mul_le_mul_right (4294967296 ^ m) (show 1 ≤ g m by omega)
  omega
/-- how many bytes a number has -/
def bl (v : Nat) : Nat := if h : v = 0 then 0 else bl (v / 256) + 1
termination_by v
decreasing_by exact Nat.div_lt_self (Nat.pos_of_ne_zero h) (by decide)
theorem bl_ok : ∀ n v : Nat, v ≤ n → IsBl v (bl v)
  | 0, v, h => by
    have e : v = 0 := by omega
    subst e
    rw [bl]
    exact ⟨by decide, Or.inl rfl⟩
  | n + 1, v, h => by
    rw [bl]
    by_cases e : v = 0
    · rw [dif_pos e, e]
      exact ⟨by decide, Or.inl rfl⟩
    · rw [dif_neg e]
      obtain ⟨h1, h2⟩ := bl_ok n (v / 256) (by omega)
      refine ⟨?_, Or.inr ?_⟩
      · rw [Nat.pow_succ]; omega
      · rw [Nat.add_sub_cancel]
        rcases h2 with h2 | h2
        · rw [h2]; show 1 ≤ v; omega
        · obtain ⟨k, hk⟩ : ∃ k, bl (v / 256) = k + 1 := by
            cases hb : bl (v / 256) with
            | zero => rw [hb] at h1; have : v / 256 = 0 := by simpa using h1
                      rw [hb] at h2
                      rw [this] at h2
                      exact absurd h2 (by decide)
            | succ k => exact ⟨k, rfl⟩
          rw [hk] at h2 ⊢
          rw [Nat.add_sub_cancel] at h2
          rw [Nat.pow_succ]
          omega
theorem bl_is (v : Nat) : IsBl v (bl v) := bl_ok v v (Nat.le_refl v)
theorem bl_of {v k : Nat} (h : IsBl v k) : k = bl v := h.uniq (bl_is v)
/-- how many bytes a highest word has -/
def tb (x : Nat) : Nat := if x / 16777216 ≠ 0 then 4 else if x / 65536 ≠ 0 then 3 else if x / 256 ≠ 0 then 2 else 1
theorem tb_ok {x : Nat} (h : x < 4294967296) (h0 : x ≠ 0) : 1 ≤ tb x ∧ tb x ≤ 4 ∧ x < 256 ^ tb x ∧ 256 ^ (tb x - 1) ≤ x := by
  unfold tb
  split
  · exact ⟨by decide, by decide, h, by show 16777216 ≤ x; omega⟩
  · split
    · exact ⟨by decide, by decide, by show x < 16777216; omega, by show 65536 ≤ x; omega⟩
    · split
      · exact ⟨by decide, by decide, by show x < 65536; omega, by show 256 ≤ x; omega⟩
      · exact ⟨by decide, by decide, by show x < 256; omega, by show 1 ≤ x; omega⟩
theorem pow32 (n : Nat) : 4294967296 ^ n = 256 ^ (4 * n) := by rw [Nat.pow_mul]
theorem NatOk.blS {f : Nat → Nat} {n v : Nat} (h : NatOk f (n + 1) v) : 4 * n + tb (f n) = bl v := by
  obtain ⟨a, b, e, d⟩ := h
  have hlo := nv_lt (f := f) (n := n) (fun k hk => b k (by omega))
  have hv9 : v = nv f n + f n * 4294967296 ^ n := e.symm
  have h0 : f n ≠ 0 := by
    intro q
    rw [q, Nat.zero_mul, Nat.add_zero] at hv9
    rcases d with d | d
    · omega
    · rw [Nat.add_sub_cancel] at d; omega
  obtain ⟨t1, t2, t3, t4⟩ := tb_ok (b n (by omega)) h0
  refine bl_of ⟨?_, Or.inr ?_⟩
  · have h1 := Nat.mul_le_mul_right (4294967296 ^ n) (show f n + 1 ≤ 256 ^ tb (f n) from t3)
    rw [Nat.add_mul, Nat.one_mul] at h1
    rw [Nat.pow_add, ← pow32, Nat.mul_comm (4294967296 ^ n)]
    omega
  · have h1 := Nat.mul_le_mul_right (4294967296 ^ n) t4
    rw [show 4 * n + tb (f n) - 1 = 4 * n + (tb (f n) - 1) by omega, Nat.pow_add, ← pow32, Nat.mul_comm (4294967296 ^ n)]
    omega
theorem NatOk.bl0 {f : Nat → Nat} {v : Nat} (h : NatOk f 0 v) : 0 = bl v := by
  have e : v = 0 := h.2.2.1.symm
  rw [e, bl]
  rfl
theorem lor32 {a b : Nat} (h : b < 4294967296) : a * 4294967296 ||| b = a * 4294967296 + b := by
  have := Nat.two_pow_add_eq_or_of_lt (i := 32) h a
  rw [Nat.mul_comm] at this
  exact this.symm
theorem tb_4 {x : Nat} (h : x / 16777216 ≠ 0) : 4 = tb x := by unfold tb; rw [if_pos h]
theorem tb_3 {x : Nat} (h1 : x / 16777216 = 0) (h : x / 65536 ≠ 0) : 3 = tb x := by unfold tb; rw [if_neg (fun q => q h1), if_pos h]
theorem tb_2 {x : Nat} (h1 : x / 16777216 = 0) (h2 : x / 65536 = 0) (h : x / 256 ≠ 0) : 2 = tb x := by unfold tb; rw [if_neg (fun q => q h1), if_neg (fun q => q h2), if_pos h]
theorem tb_1 {x : Nat} (h1 : x / 16777216 = 0) (h2 : x / 65536 = 0) (h : x / 256 = 0) : 1 = tb x := by unfold tb; rw [if_neg (fun q => q h1), if_neg (fun q => q h2), if_neg (fun q => q h)]
/-- an int as a long, under the mask of 32 ones -/
theorem gz_mask {w : Nat} (hw : w < 4294967296) : (nI w).toInt64 &&& (4294967295 : Int64) = lN w := by
  apply gz_lext
  rw [Int64.toBitVec_and, BitVec.toNat_and, gz_ltn, Nat.mod_eq_of_lt (a := w) (by omega)]
  have e : ((nI w).toInt64.toBitVec.toNat) % 2 ^ 32 = w := by
    have h1 : (nI w).toInt64.toBitVec = (nI w).toBitVec.signExtend 64 := rfl
    rw [h1]
    rw [BitVec.toNat_signExtend, BitVec.toNat_setWidth, gz_tn, Nat.mod_eq_of_lt (a := w) hw, Nat.mod_eq_of_lt (a := w) (by omega)]
    split <;> omega
  rw [show (4294967295 : Int64).toBitVec.toNat = 2 ^ 32 - 1 from by decide, Nat.and_two_pow_sub_one_eq_mod, e]
section GM
variable {p : Program} {l : Launch} {e : Env} {R : Room} {s : State} {m : MethodId} {args : Array Value} {below : List Frame} {meth : Method} {c : Code} {H : Heap} {locs : List Loc} {cells slots : Nat} {Q : State → Prop}
variable {cc : ByteArray} {pc : Nat} {ls : Array Slot} {rest : List Value}
theorem gv_i2lm (hexec : p.tables.exec = Jvm.exec) (hb : c.code = cc) {own : String} {index w : Nat} (hown : s.vm.findClass own = some m.cls) (hconst : (Jvm.Cond.constantLong own index 4294967295).before args s = true) (hd1 : decode cc pc = .ok (.i2l, 1)) (hd2 : decode cc (pc + 1) = .ok (.ldc2_w index, 3)) (hd3 : decode cc (pc + 1 + 3) = .ok (.land, 1)) (hw : w < 4294967296)
    (k : W p l e R s m args below meth c H locs cells slots Q (F0 m (pc + 1 + 3 + 1) ls (.long (lN w) :: rest))) : W p l e R s m args below meth c H locs cells slots Q (F0 m pc ls (.int (nI w) :: rest)) :=
  lv_i2l (v := (nI w).toInt64) hexec hb hd1 rfl (lv_ldc2 hexec hb hown hconst hd2 (lv_land hexec hb hd3 (by rw [gz_mask hw]; exact k)))
end GM
