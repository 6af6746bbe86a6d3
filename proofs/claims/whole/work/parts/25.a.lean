/-! The reference's rounds: two halves that change places. -/
def HvI (u v : Nat) (G : Nat → Nat) (k za zb : Nat) (a b : Nat → Nat) : Prop := (k % 2 = 0 ∧ za = u ∧ zb = v ∧ (∀ q, q < u → a q = G (0 + q)) ∧ (∀ q, q < v → b q = G (u + q))) ∨ (k % 2 = 1 ∧ za = v ∧ zb = u ∧ (∀ q, q < v → a q = G (u + q)) ∧ (∀ q, q < u → b q = G (0 + q)))
theorem HvI.mkE {u v k za zb : Nat} {G a b : Nat → Nat} (h : k % 2 = 0) (h1 : za = u) (h2 : zb = v) (h3 : ∀ q, q < u → a q = G (0 + q)) (h4 : ∀ q, q < v → b q = G (u + q)) : HvI u v G k za zb a b := Or.inl ⟨h, h1, h2, h3, h4⟩
theorem HvI.mkO {u v k za zb : Nat} {G a b : Nat → Nat} (h : k % 2 = 1) (h1 : za = v) (h2 : zb = u) (h3 : ∀ q, q < v → a q = G (u + q)) (h4 : ∀ q, q < u → b q = G (0 + q)) : HvI u v G k za zb a b := Or.inr ⟨h, h1, h2, h3, h4⟩
theorem HvI.start {u v n : Nat} {f ro a b : Nat → Nat} (hn : u + v = n) (hro : ∀ q, q < n → ro q = f q) (ha : ∀ q, q < u → a q = ro q) (hb : ∀ q, q < v → b q = ro (u + q)) : HvI u v f 0 u v a b := HvI.mkE rfl rfl rfl (fun q hq => by rw [ha q hq, hro q (by omega), Nat.zero_add]) (fun q hq => by rw [hb q hq, hro _ (by omega)])
theorem HvI.even {u v k za zb : Nat} {G a b : Nat → Nat} (h : HvI u v G k za zb a b) (e : k % 2 = 0) : za = u ∧ zb = v ∧ (∀ q, q < u → a q = G (0 + q)) ∧ (∀ q, q < v → b q = G (u + q)) := by
  rcases h with h | h
  · exact h.2
  · have := h.1; omega
theorem HvI.odd {u v k za zb : Nat} {G a b : Nat → Nat} (h : HvI u v G k za zb a b) (e : k % 2 = 1) : za = v ∧ zb = u ∧ (∀ q, q < v → a q = G (u + q)) ∧ (∀ q, q < u → b q = G (0 + q)) := by
  rcases h with h | h
  · have := h.1; omega
  · exact h.2
theorem hv_row {n u v ya : Nat} {G a b r ro : Nat → Nat} (hn : u + v = n) (h64 : n ≤ 64) (hya : ya = u) (ha : ∀ q, q < u → a q = G (0 + q)) (hb : ∀ q, q < v → b q = G (u + q)) (hr : ∀ q, q < 64 → r q = if q < n then (if q < ya then a q else b (q - ya)) else ro q) : ∀ q, q < n → r q = G q := by
  intro q hq
  rw [hr q (by omega), if_pos hq, hya]
  by_cases e : q < u
  · rw [if_pos e, ha q e, Nat.zero_add]
  · rw [if_neg e, hb _ (by omega)]
    congr 1
    omega
theorem half_plc {lf off z q : Nat} (hq : q < z) : plc lf off z q = off + plc lf 0 z q := by
  unfold plc
  split <;> omega
theorem half_N {lf rx off z z' : Nat} {hs G : Nat → Nat} (h : ∀ q, q < z → hs q = G (off + q)) (hz : z' = z) : dgv rx (fun q => hs (plc lf 0 z' q)) 0 z' = dgv rx (fun q => G (plc lf off z q)) 0 z := by
  subst hz
  refine dgv_congr (fun k h1 h2 => ?_)
  have hp := plc_in (lf := lf) (fr := 0) (ln := z') (k := k) (by omega)
  show hs (plc lf 0 z' k) = G (plc lf off z' k)
  rw [h _ (by omega), half_plc (off := off) (by omega)]
theorem half_dg {rx off z z' n : Nat} {hs G : Nat → Nat} (h : ∀ q, q < z → hs q = G (off + q)) (hz : z' = z) (hG : ∀ q, q < n → G q < rx) (ho : off + z ≤ n) : ∀ q, q < z' → hs q < rx := fun q hq => by rw [h q (by omega)]; exact hG _ (by omega)
theorem half_b {rx mn z : Nat} {hs : Nat → Nat} {lf : Nat} (hr : 1 ≤ rx) (hz : z ≤ mn - mn / 2) (hd : ∀ q, q < z → hs q < rx) : dgv rx (fun q => hs (plc lf 0 z q)) 0 z < 256 ^ ff1b rx mn := by
  have h1 : dgv rx (fun q => hs (plc lf 0 z q)) 0 z < rx ^ z := dgv_lt (fun k h1 h2 => hd _ (by have := plc_in (lf := lf) (fr := 0) (ln := z) (k := k) (by omega); omega))
  have h2 := Nat.pow_le_pow_right (show rx > 0 by omega) hz
  have h3 := (bl_is (rx ^ (mn - mn / 2) - 1)).1
  have h4 := Nat.one_le_pow (mn - mn / 2) rx hr
  unfold ff1b
  omega
theorem str_Y {st : Nat → Nat} {aw : Nat} (h : ∀ q, q < 4 * aw → st q < 256) : ynum st aw < 256 ^ (4 * aw) ∧ ∀ q, q < 4 * aw → st q = beB (ynum st aw) (4 * aw) q := by
  rw [← bev_y]
  exact ⟨bev_lt h, fun q hq => (bev_be h q hq).symm⟩
theorem ff1_Y {W tb : Nat → Nat} {r bs n tn i N : Nat} (hW : ∀ j, j < 16 * (r + 1) → W j < 256) (htb : ∀ j, j < 64 → tb j < 256) (hb : bs ≤ 65536) (hn : n < 256) (ht : tn < 256) (hi : i < 256) (haw : ff1aw bs n ≤ 17) : FF1 W r bs n tn tb i N < 256 ^ (4 * ff1aw bs n) ∧ ∀ q, q < 4 * ff1aw bs n → strF W r (cbcF W r (enc W r (fstB bs (n / 2) n tn)) (msF tb (ff1iw bs n tn) (ff1b bs n) i N) (ff1iw bs n tn / 4)) q = beB (FF1 W r bs n tn tb i N) (4 * ff1aw bs n) q := by
  refine str_Y (fun q hq => ?_)
  unfold strF
  exact strB_lt hW (cbcF_lt hW (enc_lt hW (fstB_lt hb (by omega) hn ht)) (msF_lt htb hi) _) (by omega) _ (by omega)
theorem ff3_ynum (E : Nat → Nat) : ynum3 E = ynum (fun q => E (15 - q)) 4 := by
  refine nv_congr (fun k hk => ?_)
  unfold pkf
  show pk _ _ _ _ = pk (E (15 - 4 * (4 - 1 - k))) (E (15 - (4 * (4 - 1 - k) + 1))) (E (15 - (4 * (4 - 1 - k) + 2))) (E (15 - (4 * (4 - 1 - k) + 3)))
  rw [show 15 - 4 * (4 - 1 - k) = 4 * k + 3 by omega, show 15 - (4 * (4 - 1 - k) + 1) = 4 * k + 2 by omega, show 15 - (4 * (4 - 1 - k) + 2) = 4 * k + 1 by omega, show 15 - (4 * (4 - 1 - k) + 3) = 4 * k by omega]
theorem ff3_Y {W tb : Nat → Nat} {r i N : Nat} (hW : ∀ j, j < 16 * (r + 1) → W j < 256) (htb : ∀ j, j < 64 → tb j < 256) (hi : i < 256) : FF3 W r tb i N < 256 ^ 16 ∧ ∀ q, q < 16 → enc W r (ff3B tb i N) (15 - q) = beB (FF3 W r tb i N) 16 q := by
  unfold FF3
  rw [ff3_ynum]
  exact str_Y (aw := 4) (fun q hq => enc_lt hW (ff3B_lt htb hi) _ (by omega))
theorem ff3_be {tb : Nat → Nat} {i N j : Nat} (hj : j < 12) : beB N 12 j = ff3B tb i N (15 - (4 + j)) := by
  unfold beB ff3B
  rw [if_pos (by omega), show 15 - (4 + j) = 12 - 1 - j by omega]
theorem ff3_4 {tb g : Nat → Nat} {i N x0 x1 x2 x3 : Nat} (h0 : x0 = twT tb i 0) (h1 : x1 = twT tb i 1) (h2 : x2 = twT tb i 2) (h3 : x3 = twT tb i 3 ^^^ i) : ∀ q, q < 4 → gU (gU (gU (gU g 0 x0) 1 x1) 2 x2) 3 x3 q = ff3B tb i N (15 - q) := by
  intro q hq
  rcases (show q = 0 ∨ q = 1 ∨ q = 2 ∨ q = 3 by omega) with e | e | e | e <;> subst e
  · exact h0
  · exact h1
  · exact h2
  · exact h3
theorem twE {tb : Nat → Nat} {i : Nat} (h : i % 2 = 0) : tb 4 = twT tb i 0 ∧ tb 5 = twT tb i 1 ∧ tb 6 = twT tb i 2 ∧ (tb 3 &&& 15) * 16 = twT tb i 3 := by
  unfold twT
  simp only [if_pos h]
  exact ⟨rfl, rfl, rfl, rfl⟩
theorem twO {tb : Nat → Nat} {i : Nat} (h : i % 2 ≠ 0) : tb 0 = twT tb i 0 ∧ tb 1 = twT tb i 1 ∧ tb 2 = twT tb i 2 ∧ tb 3 &&& 240 = twT tb i 3 := by
  unfold twT
  simp only [if_neg h]
  exact ⟨rfl, rfl, rfl, rfl⟩
theorem hv_keep {lf off z o2 m bk rx Y : Nat} {x y G G' : Nat → Nat} (h : ∀ q, q < z → x q = G (off + q)) (hy : ∀ q, q < 64 → y q = x q) (hz : z ≤ 64) (e : G' = shF lf o2 m bk rx Y G) (hd : off + z ≤ o2 ∨ o2 + m ≤ off) : ∀ q, q < z → y q = G' (off + q) := by
  intro q hq
  rw [hy q (by omega), h q hq, e]
  unfold shF
  rw [if_neg (by omega)]
theorem hv_new {lf off m bk rx Y : Nat} {d c y G G' : Nat → Nat} (h : AdI lf m bk rx Y d c m) (hd : ∀ q, q < m → d q = G (off + q)) (hy : ∀ q, q < 64 → y q = c q) (hm : m ≤ 64) (e : G' = shF lf off m bk rx Y G) : ∀ q, q < m → y q = G' (off + q) := by
  intro q hq
  obtain ⟨h1, h2⟩ := ixP_plc (lf := lf) (fr := 0) (ln := m) (q := q) (by omega) (by omega)
  have h3 := h _ h1
  rw [h2] at h3
  rw [hy q (by omega), h3, e]
  unfold shF
  rw [if_pos (by omega)]
  have e1 : ixP lf off m (off + q) = ixP lf 0 m q := by
    unfold ixP
    split <;> omega
  rw [e1]
  refine shR_congr (fun j hj => ?_)
  have hp := plc_in (lf := lf) (fr := 0) (ln := m) (k := j) (by omega)
  show d (plc lf 0 m j) = G (plc lf off m j)
  rw [hd _ (by omega), half_plc (off := off) (by omega)]
theorem fei_e {F : Nat → Nat → Nat} {lf u v bk bs R k : Nat} {f0 : Nat → Nat} (e : rdx bk R k % 2 = 0) : fei F lf u v bk bs R f0 (k + 1) = shF lf 0 u bk bs (F (rdx bk R k) (dgv bs (fun q => fei F lf u v bk bs R f0 k (plc lf u v q)) 0 v)) (fei F lf u v bk bs R f0 k) := if_pos e
theorem fei_o {F : Nat → Nat → Nat} {lf u v bk bs R k : Nat} {f0 : Nat → Nat} (e : rdx bk R k % 2 ≠ 0) : fei F lf u v bk bs R f0 (k + 1) = shF lf u v bk bs (F (rdx bk R k) (dgv bs (fun q => fei F lf u v bk bs R f0 k (plc lf 0 u q)) 0 u)) (fei F lf u v bk bs R f0 k) := if_neg e
