set_option maxHeartbeats 4000000 in
set_option maxRecDepth 100000 in
/-- Row.has(i) -/
theorem c_X4_has (l : Launch) (dC : Nat → ClassId) (dI : Nat → Nat → Nat) (cI : ClassId) (sz : Nat) (ro : Nat) (rc : Nat) (n : Nat) (bs : Nat) (x : Int32) (hn : n < 2147483648) : Met l yX4_has wsX4_has ({ frames := 0, cells := 0, slots := 0, locals := 0 }) (gPc dC dI cI [.ref ro, .int x] [(ro, .inr (4, [.ref rc, .int (nI n), .int (nI bs)]))] sz) (QcRead (nI (if 0 ≤ x.toInt ∧ x.toInt < (n : Int) then 1 else 0))) 0 0 (fun _ => False) := by
  refine Met.ofW (cc := cX4_has) (maxL := 2) (ret := (some .boolean)) (by decide) rfl ?_
  intro p e s m args below meth c s₁ B9 hml hv
  obtain ⟨rfl, hsz, ⟨hP, hK, hD0⟩⟩ := hv
  have hx := B9.exec
  have hb := B9.bytes
  have hr := B9.returns
  have hts := atoms_spec (ws := wsX4_has) B9.pre
  have hown : s.vm.findClass RX4 = some m.cls := findClass_of_methodNamed B9.named
  have hlocks := B9.notSynchronized
  subst hsz
  have hD := hD0.self (sz := s.heap.size)
  generalize hAe : va_A [(ro, .inr (4, [.ref rc, .int (nI n), .int (nI bs)]))] s.heap.size = A at hD
  have hA : ∀ q : Nat, s.heap.size ≤ q → A q := fun q h => by rw [← hAe]; exact Or.inr h
  have hS : va_S A s.heap s.heap [] := va_S.rf
  have hl := lv_entry ([.ref ro, .int x]) (n := 2) (Nat.le_of_ble_eq_true rfl)
  rw [lg_entry_eq]
  generalize (lg_sl ([.ref ro, .int x]) ++ List.replicate (2 - (lg_sl ([.ref ro, .int x])).length) Slot.unset).toArray = ls at hl ⊢
  have hl : lv_has ls 2 [(0, .ref ro), (1, .int x)] := hl
  refine lv_iload_n hx hb dX4_has_0 rfl (lv_at hl 1 rfl) ?_
  refine lv_if_lt (tgt := 16) hx hb dX4_has_1 (by decide) (fun c_1 => ?_) (fun c_1 => ?_)
  ·
    have h8 : x.toInt < 0 := by rw [Int32.lt_iff_toInt_lt, Int32.toInt_zero] at c_1; exact c_1
    refine lv_iconst (v := nI 0) hx hb dX4_has_16 (by decide) ?_
    refine gv_top (y := nI (if 0 ≤ x.toInt ∧ x.toInt < (n : Int) then 1 else 0)) (congrArg nI (if_neg (by omega)).symm) ?_
    exact W.zret (v := (nI (if 0 ≤ x.toInt ∧ x.toInt < (n : Int) then 1 else 0))) hx hb hr (by split <;> rfl) (fun t ht hW => ⟨rfl, ht⟩) (fun q h => by cases h) dX4_has_17
  ·
    have h8 : ¬ x.toInt < 0 := by rw [Int32.lt_iff_toInt_lt, Int32.toInt_zero] at c_1; exact c_1
    refine lv_iload_n hx hb dX4_has_4 rfl (lv_at hl 1 rfl) ?_
    refine lv_aload_n hx hb dX4_has_5 rfl (lv_at hl 0 rfl) ?_
    refine gv_get (own := RX4) (D := (dC, dI)) (ci := 4) (C := RX4) (T := TX4) (N := 3) (v := .int (nI n)) hx hb hts (by decide +kernel) hown hK hP 0 rfl rfl 1 (by decide) (hts (.fieldLink RX4 19 "NumeralCipher$Row" "size" "I") (by decide +kernel)) rfl rfl dX4_has_6 ?_
    refine lv_icmp_ge (tgt := 16) hx hb dX4_has_9 (by decide) (fun c_9 => ?_) (fun c_9 => ?_)
    ·
      have h9 : (n : Int) ≤ x.toInt := by rw [Int32.le_iff_toInt_le, nI_toInt (by omega)] at c_9; exact c_9
      refine lv_iconst (v := nI 0) hx hb dX4_has_16 (by decide) ?_
      refine gv_top (y := nI (if 0 ≤ x.toInt ∧ x.toInt < (n : Int) then 1 else 0)) (congrArg nI (if_neg (by omega)).symm) ?_
      exact W.zret (v := (nI (if 0 ≤ x.toInt ∧ x.toInt < (n : Int) then 1 else 0))) hx hb hr (by split <;> rfl) (fun t ht hW => ⟨rfl, ht⟩) (fun q h => by cases h) dX4_has_17
    ·
      have h9 : ¬ (n : Int) ≤ x.toInt := by rw [Int32.le_iff_toInt_le, nI_toInt (by omega)] at c_9; exact c_9
      refine lv_iconst (v := nI 1) hx hb dX4_has_12 (by decide) ?_
      refine gv_top (y := nI (if 0 ≤ x.toInt ∧ x.toInt < (n : Int) then 1 else 0)) (congrArg nI (if_pos (by omega)).symm) ?_
      refine lv_goto (tgt := 17) hx hb dX4_has_13 (by decide) ?_
      exact W.zret (v := (nI (if 0 ≤ x.toInt ∧ x.toInt < (n : Int) then 1 else 0))) hx hb hr (by split <;> rfl) (fun t ht hW => ⟨rfl, ht⟩) (fun q h => by cases h) dX4_has_17

set_option maxHeartbeats 4000000 in
set_option maxRecDepth 100000 in
/-- Row.isNumeral(v) -/
theorem c_X4_isNumeral (l : Launch) (dC : Nat → ClassId) (dI : Nat → Nat → Nat) (cI : ClassId) (sz : Nat) (ro : Nat) (rc : Nat) (n : Nat) (bs : Nat) (x : Int32) (hn : bs < 2147483648) : Met l yX4_isNumeral wsX4_isNumeral ({ frames := 0, cells := 0, slots := 0, locals := 0 }) (gPc dC dI cI [.ref ro, .int x] [(ro, .inr (4, [.ref rc, .int (nI n), .int (nI bs)]))] sz) (QcRead (nI (if 0 ≤ x.toInt ∧ x.toInt < (bs : Int) then 1 else 0))) 0 0 (fun _ => False) := by
  refine Met.ofW (cc := cX4_isNumeral) (maxL := 2) (ret := (some .boolean)) (by decide) rfl ?_
  intro p e s m args below meth c s₁ B9 hml hv
  obtain ⟨rfl, hsz, ⟨hP, hK, hD0⟩⟩ := hv
  have hx := B9.exec
  have hb := B9.bytes
  have hr := B9.returns
  have hts := atoms_spec (ws := wsX4_isNumeral) B9.pre
  have hown : s.vm.findClass RX4 = some m.cls := findClass_of_methodNamed B9.named
  have hlocks := B9.notSynchronized
  subst hsz
  have hD := hD0.self (sz := s.heap.size)
  generalize hAe : va_A [(ro, .inr (4, [.ref rc, .int (nI n), .int (nI bs)]))] s.heap.size = A at hD
  have hA : ∀ q : Nat, s.heap.size ≤ q → A q := fun q h => by rw [← hAe]; exact Or.inr h
  have hS : va_S A s.heap s.heap [] := va_S.rf
  have hl := lv_entry ([.ref ro, .int x]) (n := 2) (Nat.le_of_ble_eq_true rfl)
  rw [lg_entry_eq]
  generalize (lg_sl ([.ref ro, .int x]) ++ List.replicate (2 - (lg_sl ([.ref ro, .int x])).length) Slot.unset).toArray = ls at hl ⊢
  have hl : lv_has ls 2 [(0, .ref ro), (1, .int x)] := hl
  refine lv_iload_n hx hb dX4_isNumeral_0 rfl (lv_at hl 1 rfl) ?_
  refine lv_if_lt (tgt := 16) hx hb dX4_isNumeral_1 (by decide) (fun c_1 => ?_) (fun c_1 => ?_)
  ·
    have h8 : x.toInt < 0 := by rw [Int32.lt_iff_toInt_lt, Int32.toInt_zero] at c_1; exact c_1
    refine lv_iconst (v := nI 0) hx hb dX4_isNumeral_16 (by decide) ?_
    refine gv_top (y := nI (if 0 ≤ x.toInt ∧ x.toInt < (bs : Int) then 1 else 0)) (congrArg nI (if_neg (by omega)).symm) ?_
    exact W.zret (v := (nI (if 0 ≤ x.toInt ∧ x.toInt < (bs : Int) then 1 else 0))) hx hb hr (by split <;> rfl) (fun t ht hW => ⟨rfl, ht⟩) (fun q h => by cases h) dX4_isNumeral_17
  ·
    have h8 : ¬ x.toInt < 0 := by rw [Int32.lt_iff_toInt_lt, Int32.toInt_zero] at c_1; exact c_1
    refine lv_iload_n hx hb dX4_isNumeral_4 rfl (lv_at hl 1 rfl) ?_
    refine lv_aload_n hx hb dX4_isNumeral_5 rfl (lv_at hl 0 rfl) ?_
    refine gv_get (own := RX4) (D := (dC, dI)) (ci := 4) (C := RX4) (T := TX4) (N := 3) (v := .int (nI bs)) hx hb hts (by decide +kernel) hown hK hP 0 rfl rfl 2 (by decide) (hts (.fieldLink RX4 15 "NumeralCipher$Row" "base" "I") (by decide +kernel)) rfl rfl dX4_isNumeral_6 ?_
    refine lv_icmp_ge (tgt := 16) hx hb dX4_isNumeral_9 (by decide) (fun c_9 => ?_) (fun c_9 => ?_)
    ·
      have h9 : (bs : Int) ≤ x.toInt := by rw [Int32.le_iff_toInt_le, nI_toInt (by omega)] at c_9; exact c_9
      refine lv_iconst (v := nI 0) hx hb dX4_isNumeral_16 (by decide) ?_
      refine gv_top (y := nI (if 0 ≤ x.toInt ∧ x.toInt < (bs : Int) then 1 else 0)) (congrArg nI (if_neg (by omega)).symm) ?_
      exact W.zret (v := (nI (if 0 ≤ x.toInt ∧ x.toInt < (bs : Int) then 1 else 0))) hx hb hr (by split <;> rfl) (fun t ht hW => ⟨rfl, ht⟩) (fun q h => by cases h) dX4_isNumeral_17
    ·
      have h9 : ¬ (bs : Int) ≤ x.toInt := by rw [Int32.le_iff_toInt_le, nI_toInt (by omega)] at c_9; exact c_9
      refine lv_iconst (v := nI 1) hx hb dX4_isNumeral_12 (by decide) ?_
      refine gv_top (y := nI (if 0 ≤ x.toInt ∧ x.toInt < (bs : Int) then 1 else 0)) (congrArg nI (if_pos (by omega)).symm) ?_
      refine lv_goto (tgt := 17) hx hb dX4_isNumeral_13 (by decide) ?_
      exact W.zret (v := (nI (if 0 ≤ x.toInt ∧ x.toInt < (bs : Int) then 1 else 0))) hx hb hr (by split <;> rfl) (fun t ht hW => ⟨rfl, ht⟩) (fun q h => by cases h) dX4_isNumeral_17

set_option maxHeartbeats 4000000 in
set_option maxRecDepth 100000 in
/-- Row.isLongEnough() -/
theorem c_X4_isLongEnough (l : Launch) (dC : Nat → ClassId) (dI : Nat → Nat → Nat) (cI : ClassId) (sz : Nat) (ro : Nat) (rc : Nat) (n : Nat) (bs : Nat) (hn : n ≤ 64) (hbs1 : 2 ≤ bs) (hbs2 : bs ≤ 65536) : Met l yX4_isLongEnough wsX4_isLongEnough ({ frames := 0, cells := 0, slots := 0, locals := 0 }) (gPc dC dI cI [.ref ro] [(ro, .inr (4, [.ref rc, .int (nI n), .int (nI bs)]))] sz) (QcRead (nI (if 2 ≤ n ∧ 1000000 ≤ bs ^ n then 1 else 0))) 0 0 (fun _ => False) := by
  refine Met.ofW (cc := cX4_isLongEnough) (maxL := 4) (ret := (some .boolean)) (by decide) rfl ?_
  intro p e s m args below meth c s₁ B9 hml hv
  obtain ⟨rfl, hsz, ⟨hP, hK, hD0⟩⟩ := hv
  have hx := B9.exec
  have hb := B9.bytes
  have hr := B9.returns
  have hts := atoms_spec (ws := wsX4_isLongEnough) B9.pre
  have hown : s.vm.findClass RX4 = some m.cls := findClass_of_methodNamed B9.named
  have hlocks := B9.notSynchronized
  subst hsz
  have hD := hD0.self (sz := s.heap.size)
  generalize hAe : va_A [(ro, .inr (4, [.ref rc, .int (nI n), .int (nI bs)]))] s.heap.size = A at hD
  have hA : ∀ q : Nat, s.heap.size ≤ q → A q := fun q h => by rw [← hAe]; exact Or.inr h
  have hS : va_S A s.heap s.heap [] := va_S.rf
  have hl := lv_entry ([.ref ro]) (n := 4) (Nat.le_of_ble_eq_true rfl)
  rw [lg_entry_eq]
  generalize (lg_sl ([.ref ro]) ++ List.replicate (4 - (lg_sl ([.ref ro])).length) Slot.unset).toArray = ls at hl ⊢
  have hl : lv_has ls 4 [(0, .ref ro)] := hl
  refine gw_lab (G := fun R args Q => ∀ (rw_ : Nat), (rw_ < 9223372036854775808) → (1000000 ≤ rw_ ↔ 1000000 ≤ bs ^ n) → ∀ (ls : Array Slot), lv_has ls 4 [(1, .long (lN rw_)), (0, .ref ro)] → W p l e R s m args below meth c s.heap [] 0 0 Q (F0 m 34 ls [])) ?_ (fun L34 => ?_)
  ·
    intro rw_ hlt hiff ls hl
    refine lv_aload_n hx hb dX4_isLongEnough_34 rfl (lv_at hl 1 rfl) ?_
    refine gv_get (own := RX4) (D := (dC, dI)) (ci := 4) (C := RX4) (T := TX4) (N := 3) (v := .int (nI n)) hx hb hts (by decide +kernel) hown hK hP 0 rfl rfl 1 (by decide) (hts (.fieldLink RX4 19 "NumeralCipher$Row" "size" "I") (by decide +kernel)) rfl rfl dX4_isLongEnough_35 ?_
    refine lv_iconst (v := nI 2) hx hb dX4_isLongEnough_38 (by decide) ?_
    refine gv_icmp_lt (tgt := 54) hx hb dX4_isLongEnough_39 (by decide) (by omega) (by omega) (fun c_39 => ?_) (fun c_39 => ?_)
    ·
      refine lv_iconst (v := nI 0) hx hb dX4_isLongEnough_54 (by decide) ?_
      refine gv_top (y := nI (if 2 ≤ n ∧ 1000000 ≤ bs ^ n then 1 else 0)) (congrArg nI (if_neg (fun q9 => absurd q9.1 (by omega))).symm) ?_
      exact W.zret (v := (nI (if 2 ≤ n ∧ 1000000 ≤ bs ^ n then 1 else 0))) hx hb hr (by split <;> rfl) (fun t ht hW => ⟨rfl, ht⟩) (fun q h => by cases h) dX4_isLongEnough_55
    ·
      refine lv_lload_n hx hb dX4_isLongEnough_42 rfl (lv_at hl 0 rfl) ?_
      refine lv_ldc2 (own := RX4) (v := (1000000 : Int64)) hx hb hown (hts (.constantLong RX4 22 (1000000)) (by decide +kernel)) dX4_isLongEnough_43 ?_
      refine gv_topl (y := lN 1000000) (by decide +kernel) ?_
      refine gl_cmp_lt (tgt := 54) hx hb dX4_isLongEnough_46 dX4_isLongEnough_47 (by decide) (by omega) (by omega) (fun c_46 => ?_) (fun c_46 => ?_)
      ·
        refine lv_iconst (v := nI 0) hx hb dX4_isLongEnough_54 (by decide) ?_
        refine gv_top (y := nI (if 2 ≤ n ∧ 1000000 ≤ bs ^ n then 1 else 0)) (congrArg nI (if_neg (fun q9 => absurd (hiff.mpr q9.2) (by omega))).symm) ?_
        exact W.zret (v := (nI (if 2 ≤ n ∧ 1000000 ≤ bs ^ n then 1 else 0))) hx hb hr (by split <;> rfl) (fun t ht hW => ⟨rfl, ht⟩) (fun q h => by cases h) dX4_isLongEnough_55
      ·
        refine lv_iconst (v := nI 1) hx hb dX4_isLongEnough_50 (by decide) ?_
        refine gv_top (y := nI (if 2 ≤ n ∧ 1000000 ≤ bs ^ n then 1 else 0)) (congrArg nI (if_pos ⟨c_39, hiff.mp c_46⟩).symm) ?_
        refine lv_goto (tgt := 55) hx hb dX4_isLongEnough_51 (by decide) ?_
        exact W.zret (v := (nI (if 2 ≤ n ∧ 1000000 ≤ bs ^ n then 1 else 0))) hx hb hr (by split <;> rfl) (fun t ht hW => ⟨rfl, ht⟩) (fun q h => by cases h) dX4_isLongEnough_55
  refine lv_lconst (v := lN 1) hx hb dX4_isLongEnough_0 (by decide) ?_
  refine gv_topl (y := lN (bs ^ 0)) (by rw [Nat.pow_zero]) ?_
  refine lv_lstore_n (lv' := [(1, .long (lN (bs ^ 0))), (0, .ref ro)]) hx hb dX4_isLongEnough_1 rfl hl (by decide) rfl (fun ls hl => ?_)
  refine lv_iconst (v := nI 0) hx hb dX4_isLongEnough_2 (by decide) ?_
  refine lv_istore_n (lv' := [(3, .int (nI 0)), (1, .long (lN (bs ^ 0))), (0, .ref ro)]) hx hb dX4_isLongEnough_3 rfl hl (by decide) rfl (fun ls hl => ?_)
  refine gw_lab (G := fun R args Q => ∀ (n9_4 : Nat) (i : Nat), n9_4 = n - i → (i ≤ n) → (bs ^ i < 65536000000) → ∀ (ls : Array Slot), lv_has ls 4 [(3, .int (nI i)), (1, .long (lN (bs ^ i))), (0, .ref ro)] → W p l e R s m args below meth c s.heap [] 0 0 Q (F0 m 4 ls [])) ?_ (fun L4 => ?_)
  ·
    intro n9_4
    induction n9_4 using Nat.strongRecOn with
    | ind n9_4 ih9_4 =>
      intro i hmu9_4 hi hrw ls hl
      refine lv_iload_n hx hb dX4_isLongEnough_4 rfl (lv_at hl 0 rfl) ?_
      refine lv_aload_n hx hb dX4_isLongEnough_5 rfl (lv_at hl 2 rfl) ?_
      refine gv_get (own := RX4) (D := (dC, dI)) (ci := 4) (C := RX4) (T := TX4) (N := 3) (v := .int (nI n)) hx hb hts (by decide +kernel) hown hK hP 0 rfl rfl 1 (by decide) (hts (.fieldLink RX4 19 "NumeralCipher$Row" "size" "I") (by decide +kernel)) rfl rfl dX4_isLongEnough_6 ?_
      refine gv_icmp_ge (tgt := 34) hx hb dX4_isLongEnough_9 (by decide) (by omega) (by omega) (fun c_9 => ?_) (fun c_9 => ?_)
      ·
        have e9 : i = n := by omega
        have h34 : 1000000 ≤ bs ^ i ↔ 1000000 ≤ bs ^ n := by rw [e9]
        have hlt : bs ^ i < 9223372036854775808 := by omega
        exact L34 (bs ^ i) (by omega) h34 _ (lv_sub hl [1, 2] rfl)
      ·
        refine lv_lload_n hx hb dX4_isLongEnough_12 rfl (lv_at hl 1 rfl) ?_
        refine lv_ldc2 (own := RX4) (v := (1000000 : Int64)) hx hb hown (hts (.constantLong RX4 22 (1000000)) (by decide +kernel)) dX4_isLongEnough_13 ?_
        refine gv_topl (y := lN 1000000) (by decide +kernel) ?_
        refine gl_cmp_ge (tgt := 34) hx hb dX4_isLongEnough_16 dX4_isLongEnough_17 (by decide) (by omega) (by omega) (fun c_16 => ?_) (fun c_16 => ?_)
        ·
          have h34 : 1000000 ≤ bs ^ i ↔ 1000000 ≤ bs ^ n := ⟨fun _ => Nat.le_trans c_16 (Nat.pow_le_pow_right (by omega) hi), fun _ => c_16⟩
          have hlt : bs ^ i < 9223372036854775808 := by omega
          exact L34 (bs ^ i) (by omega) h34 _ (lv_sub hl [1, 2] rfl)
        ·
          refine lv_lload_n hx hb dX4_isLongEnough_20 rfl (lv_at hl 1 rfl) ?_
          refine lv_aload_n hx hb dX4_isLongEnough_21 rfl (lv_at hl 2 rfl) ?_
          refine gv_get (own := RX4) (D := (dC, dI)) (ci := 4) (C := RX4) (T := TX4) (N := 3) (v := .int (nI bs)) hx hb hts (by decide +kernel) hown hK hP 0 rfl rfl 2 (by decide) (hts (.fieldLink RX4 15 "NumeralCipher$Row" "base" "I") (by decide +kernel)) rfl rfl dX4_isLongEnough_22 ?_
          refine lv_i2l (v := lN bs) hx hb dX4_isLongEnough_25 (nI_l (by omega)) ?_
          refine gl_lmul (r := bs ^ (i + 1)) hx hb dX4_isLongEnough_26 (by rw [Nat.pow_succ]) ?_
          refine lv_lstore_n (lv' := [(1, .long (lN (bs ^ (i + 1)))), (3, .int (nI i)), (0, .ref ro)]) hx hb dX4_isLongEnough_27 rfl hl (by decide) rfl (fun ls hl => ?_)
          refine lv_iinc (v := nI (i + 1)) (lv' := [(3, .int (nI (i + 1))), (1, .long (lN (bs ^ (i + 1)))), (0, .ref ro)]) hx hb dX4_isLongEnough_28 hl (k := 1) rfl (gz_inc1 _) (by decide) rfl (fun ls hl => ?_)
          refine lv_goto (tgt := 4) hx hb dX4_isLongEnough_31 (by decide) ?_
          exact ih9_4 _ (by omega) (i + 1) rfl (by omega) (by have h9 := Nat.mul_le_mul (Nat.le_of_lt c_16) hbs2; rw [Nat.pow_succ]; have h8 : bs ^ i * bs < 1000000 * bs := Nat.mul_lt_mul_of_pos_right c_16 (by omega); have h7 : 1000000 * bs ≤ 1000000 * 65536 := Nat.mul_le_mul_left _ hbs2; omega) _ hl
  exact L4 _ 0 rfl (by omega) (by rw [Nat.pow_zero]; decide) _ hl

set_option maxHeartbeats 4000000 in
set_option maxRecDepth 100000 in
/-- Row.placeOf -/
theorem c_X4_placeOf (l : Launch) (k : Nat) (fr : Nat) (ln : Nat) (lf : Nat) (hk : k < ln) (hs : fr + ln ≤ 64) (hlf : lf ≤ 1) : Met l yX4_placeOf wsX4_placeOf ({ frames := 0, cells := 0, slots := 0, locals := 0 }) (va_Pc [.int (nI k), .int (nI fr), .int (nI ln), .int (nI lf)] (fun _ => True)) (QcRead (nI (plc lf fr ln k))) 0 0 (fun _ => False) := by
  refine Met.ofW (cc := cX4_placeOf) (maxL := 4) (ret := (some .int)) (by decide) rfl ?_
  intro p e s m args below meth c s₁ B9 hml hv
  obtain ⟨rfl, -⟩ := hv
  have hx := B9.exec
  have hb := B9.bytes
  have hr := B9.returns
  have hts := atoms_spec (ws := wsX4_placeOf) B9.pre
  have hown : s.vm.findClass RX4 = some m.cls := findClass_of_methodNamed B9.named
  have hlocks := B9.notSynchronized
  have hl := lv_entry ([.int (nI k), .int (nI fr), .int (nI ln), .int (nI lf)]) (n := 4) (Nat.le_of_ble_eq_true rfl)
  rw [lg_entry_eq]
  generalize (lg_sl ([.int (nI k), .int (nI fr), .int (nI ln), .int (nI lf)]) ++ List.replicate (4 - (lg_sl ([.int (nI k), .int (nI fr), .int (nI ln), .int (nI lf)])).length) Slot.unset).toArray = ls at hl ⊢
  have hl : lv_has ls 4 [(0, .int (nI k)), (1, .int (nI fr)), (2, .int (nI ln)), (3, .int (nI lf))] := hl
  refine lv_iload_n hx hb dX4_placeOf_0 rfl (lv_at hl 3 rfl) ?_
  refine gv_if_eq (tgt := 10) hx hb dX4_placeOf_1 (by decide) (by omega) (fun c_1 => ?_) (fun c_1 => ?_)
  ·
    refine lv_iload_n hx hb dX4_placeOf_10 rfl (lv_at hl 1 rfl) ?_
    refine lv_iload_n hx hb dX4_placeOf_11 rfl (lv_at hl 2 rfl) ?_
    refine gv_iadd (r := fr + ln) hx hb dX4_placeOf_12 rfl ?_
    refine lv_iconst (v := nI 1) hx hb dX4_placeOf_13 (by decide) ?_
    refine gv_isub (r := (fr + ln) - 1) hx hb dX4_placeOf_14 (by omega) ?_
    refine lv_iload_n hx hb dX4_placeOf_15 rfl (lv_at hl 0 rfl) ?_
    refine gv_isub (r := ((fr + ln) - 1) - k) hx hb dX4_placeOf_16 (by omega) ?_
    refine gv_top (y := nI (plc lf fr ln k)) (congrArg nI (if_pos c_1).symm) ?_
    exact W.iret (v := (nI (plc lf fr ln k))) hx hb hr (fun t ht hW => ⟨rfl, ht⟩) (fun q h => by cases h) dX4_placeOf_17
  ·
    refine lv_iload_n hx hb dX4_placeOf_4 rfl (lv_at hl 1 rfl) ?_
    refine lv_iload_n hx hb dX4_placeOf_5 rfl (lv_at hl 0 rfl) ?_
    refine gv_iadd (r := fr + k) hx hb dX4_placeOf_6 rfl ?_
    refine gv_top (y := nI (plc lf fr ln k)) (congrArg nI (if_neg c_1).symm) ?_
    refine lv_goto (tgt := 17) hx hb dX4_placeOf_7 (by decide) ?_
    exact W.iret (v := (nI (plc lf fr ln k))) hx hb hr (fun t ht hW => ⟨rfl, ht⟩) (fun q h => by cases h) dX4_placeOf_17

set_option maxHeartbeats 4000000 in
set_option maxRecDepth 100000 in
/-- Row.widthOf(numerals, scratch) -/
theorem c_X4_widthOf (l : Launch) (dC : Nat → ClassId) (dI : Nat → Nat → Nat) (cI : ClassId) (sz : Nat) (ro : Nat) (rc : Nat) (n : Nat) (bs : Nat) (na : Nat) (nc : Nat) (k0 : Nat) (f : Nat → Nat) (nm : Nat) (hb1 : 2 ≤ bs) (hb2 : bs ≤ 65536) (hnm : nm ≤ 32) : Met l yX4_widthOf wsX4_widthOf ({ frames := 3, cells := 0, slots := 0, locals := 70 }) (gPc dC dI cI [.ref ro, .int (nI nm), .ref na] [(ro, .inr (4, [.ref rc, .int (nI n), .int (nI bs)])), (na, .inr (3, [.ref nc, .int (nI k0)])), (nc, .inl (cI, 17, .inl (gA f)))] sz) (va_Qi (fun (r : Int32) (u : (Nat → Nat) × Nat) => r = (nI (bl (bs ^ nm - 1))) ∧ (NatOk u.1 u.2 (bs ^ nm - 1))) (fun u t => gB dC dI cI (va_A [(ro, .inr (4, [.ref rc, .int (nI n), .int (nI bs)])), (na, .inr (3, [.ref nc, .int (nI k0)])), (nc, .inl (cI, 17, .inl (gA f)))] sz) [(ro, .inr (4, [.ref rc, .int (nI n), .int (nI bs)])), (na, .inr (3, [.ref nc, .int (nI u.2)])), (nc, .inl (cI, 17, .inl (gA u.1)))] t) (va_A [(ro, .inr (4, [.ref rc, .int (nI n), .int (nI bs)])), (na, .inr (3, [.ref nc, .int (nI k0)])), (nc, .inl (cI, 17, .inl (gA f)))] sz)) 0 0 (va_A [(ro, .inr (4, [.ref rc, .int (nI n), .int (nI bs)])), (na, .inr (3, [.ref nc, .int (nI k0)])), (nc, .inl (cI, 17, .inl (gA f)))] sz) := by
  refine Met.ofW (cc := cX4_widthOf) (maxL := 4) (ret := (some .int)) (by decide) rfl ?_
  intro p e s m args below meth c s₁ B9 hml hv
  obtain ⟨rfl, hsz, ⟨hP, hK, hD0⟩⟩ := hv
  have hx := B9.exec
  have hb := B9.bytes
  have hr := B9.returns
  have hts := atoms_spec (ws := wsX4_widthOf) B9.pre
  have hown : s.vm.findClass RX4 = some m.cls := findClass_of_methodNamed B9.named
  have hlocks := B9.notSynchronized
  subst hsz
  have hD := hD0.self (sz := s.heap.size)
  generalize hAe : va_A [(ro, .inr (4, [.ref rc, .int (nI n), .int (nI bs)])), (na, .inr (3, [.ref nc, .int (nI k0)])), (nc, .inl (cI, 17, .inl (gA f)))] s.heap.size = A at hD ⊢
  have hA : ∀ q : Nat, s.heap.size ≤ q → A q := fun q h => by rw [← hAe]; exact Or.inr h
  have hS : va_S A s.heap s.heap [] := va_S.rf
  have hl := lv_entry ([.ref ro, .int (nI nm), .ref na]) (n := 4) (Nat.le_of_ble_eq_true rfl)
  rw [lg_entry_eq]
  generalize (lg_sl ([.ref ro, .int (nI nm), .ref na]) ++ List.replicate (4 - (lg_sl ([.ref ro, .int (nI nm), .ref na])).length) Slot.unset).toArray = ls at hl ⊢
  have hl : lv_has ls 4 [(0, .ref ro), (1, .int (nI nm)), (2, .ref na)] := hl
  refine lv_aload_n hx hb dX4_widthOf_0 rfl (lv_at hl 2 rfl) ?_
  have hPc := hP.sub (ws' := [(na, .inr (3, [.ref nc, .int (nI k0)])), (nc, .inl (cI, 17, .inl (gA f)))]) [1, 2] rfl
  have hDc := hD.sub (ws' := [(na, .inr (3, [.ref nc, .int (nI k0)])), (nc, .inl (cI, 17, .inl (gA f)))]) [1, 2] (by decide) rfl
  have hFc := va_free (wc := [(na, .inr (3, [.ref nc, .int (nI k0)])), (nc, .inl (cI, 17, .inl (gA f)))]) hD hS hA [1, 2] rfl
  refine va_callv (va_runV (As := []) (rest := []) ⟨hx, hb, hml, hown, hts⟩ (c_X3_clear l dC dI cI s.heap.size na nc k0 f ) (cwV 0 hts gX4_widthOf_X3_clear rfl rfl rfl (by decide +kernel) ⟨Nat.le_of_ble_eq_true rfl, Nat.le_of_ble_eq_true rfl⟩) ⟨gPc_blind, va_recv hK hPc (ci := 3) (q0 := 0) rfl rfl, gPc_pre hPc hK hDc⟩ rfl rfl hl.1 rfl (lv_room (Nat.le_of_ble_eq_true rfl)) dX4_widthOf_1 ⟨Nat.zero_le _, Nat.zero_le _⟩) hS (fun q _ h => hFc q h) hFc (fun u8 t8 H1 locs ht hvm hw hB hz1 hk1 hS => ?_)
  obtain ⟨f9_1, rfl⟩ : ∃ z, z = u8 := ⟨_, rfl⟩
  try dsimp only at hw hB
  obtain ⟨hP, hD⟩ := gB_join (wr := [(ro, .inr (4, [.ref rc, .int (nI n), .int (nI bs)]))]) (w2 := [(ro, .inr (4, [.ref rc, .int (nI n), .int (nI bs)])), (na, .inr (3, [.ref nc, .int (nI 0)])), (nc, .inl (cI, 17, .inl (gA f9_1)))]) hP hD [1, 2] [0] rfl rfl (by decide) (by decide) hk1 hFc ht hB rfl
  clear hk1 hz1 ht hB hvm hPc hDc hFc
  generalize H1 = H at hP hS ⊢
  have hcl := hw
  refine lv_iconst (v := nI 0) hx hb dX4_widthOf_4 (by decide) ?_
  refine lv_istore_n (lv' := [(3, .int (nI 0)), (0, .ref ro), (1, .int (nI nm)), (2, .ref na)]) hx hb dX4_widthOf_5 rfl hl (by decide) rfl (fun ls hl => ?_)
  refine gw_lab (G := fun R args Q => ∀ (n9_6 : Nat) (i : Nat) (g : Nat → Nat) (mz : Nat), n9_6 = nm - i → (i ≤ nm) → (NatOk g mz (bs ^ i - 1)) → ∀ (H : Heap) (locs : List Loc), va_P (dC, dI) vwCl [(ro, .inr (4, [.ref rc, .int (nI n), .int (nI bs)])), (na, .inr (3, [.ref nc, .int (nI mz)])), (nc, .inl (cI, 17, .inl (gA g)))] H → va_D A [(ro, .inr (4, [.ref rc, .int (nI n), .int (nI bs)])), (na, .inr (3, [.ref nc, .int (nI mz)])), (nc, .inl (cI, 17, .inl (gA g)))] → va_S A s.heap H locs → ∀ (ls : Array Slot), lv_has ls 4 [(3, .int (nI i)), (0, .ref ro), (1, .int (nI nm)), (2, .ref na)] → W p l e R s m args below meth c H locs 0 0 Q (F0 m 6 ls [])) ?_ (fun L6 => ?_)
  ·
    intro n9_6
    induction n9_6 using Nat.strongRecOn with
    | ind n9_6 ih9_6 =>
      intro i g mz hmu9_6 hi hok H locs hP hD hS ls hl
      refine lv_iload_n hx hb dX4_widthOf_6 rfl (lv_at hl 0 rfl) ?_
      refine lv_iload_n hx hb dX4_widthOf_7 rfl (lv_at hl 2 rfl) ?_
      refine gv_icmp_ge (tgt := 31) hx hb dX4_widthOf_8 (by decide) (by omega) (by omega) (fun c_8 => ?_) (fun c_8 => ?_)
      ·
        have e9 : i = nm := by omega
        rw [e9] at hok
        refine lv_aload_n hx hb dX4_widthOf_31 rfl (lv_at hl 3 rfl) ?_
        have hPc := hP.sub (ws' := [(na, .inr (3, [.ref nc, .int (nI mz)])), (nc, .inl (cI, 17, .inl (gA g)))]) [1, 2] rfl
        have hDc := hD.sub (ws' := [(na, .inr (3, [.ref nc, .int (nI mz)])), (nc, .inl (cI, 17, .inl (gA g)))]) [1, 2] (by decide) rfl
        refine gv_callR (W.runV (As := []) (rest := []) ⟨hx, hb, hml, hown, hts⟩ (c_X3_byteCount l dC dI cI H.size na nc mz g (bs ^ nm - 1) hok) (cwV 0 hts gX4_widthOf_X3_byteCount rfl rfl rfl (by decide +kernel) ⟨Nat.le_of_ble_eq_true rfl, Nat.le_of_ble_eq_true rfl⟩) ⟨gPc_blind, va_recv hK hPc (ci := 3) (q0 := 0) rfl rfl, gPc_pre hPc hK hDc⟩ rfl rfl hl.1 rfl (lv_room (Nat.le_of_ble_eq_true rfl)) dX4_widthOf_32 ⟨Nat.zero_le _, Nat.zero_le _⟩) ?_
        clear hPc hDc
        exact W.iret (v := (nI (bl (bs ^ nm - 1)))) hx hb hr (fun t ht hW => ⟨⟨_, (g, mz), rfl, ⟨rfl, hok⟩, gB_end ht hW hP hK hD⟩, hS.F ht⟩) hS.2.2 dX4_widthOf_35
      ·
        refine lv_aload_n hx hb dX4_widthOf_11 rfl (lv_at hl 3 rfl) ?_
        refine lv_aload_n hx hb dX4_widthOf_12 rfl (lv_at hl 1 rfl) ?_
        refine gv_get (own := RX4) (D := (dC, dI)) (ci := 4) (C := RX4) (T := TX4) (N := 3) (v := .int (nI bs)) hx hb hts (by decide +kernel) hown hK hP 0 rfl rfl 2 (by decide) (hts (.fieldLink RX4 15 "NumeralCipher$Row" "base" "I") (by decide +kernel)) rfl rfl dX4_widthOf_13 ?_
        refine lv_aload_n hx hb dX4_widthOf_16 rfl (lv_at hl 1 rfl) ?_
        refine gv_get (own := RX4) (D := (dC, dI)) (ci := 4) (C := RX4) (T := TX4) (N := 3) (v := .int (nI bs)) hx hb hts (by decide +kernel) hown hK hP 0 rfl rfl 2 (by decide) (hts (.fieldLink RX4 15 "NumeralCipher$Row" "base" "I") (by decide +kernel)) rfl rfl dX4_widthOf_17 ?_
        refine lv_iconst (v := nI 1) hx hb dX4_widthOf_20 (by decide) ?_
        refine gv_isub (r := bs - 1) hx hb dX4_widthOf_21 (by omega) ?_
        have hPc := hP.sub (ws' := [(na, .inr (3, [.ref nc, .int (nI mz)])), (nc, .inl (cI, 17, .inl (gA g)))]) [1, 2] rfl
        have hDc := hD.sub (ws' := [(na, .inr (3, [.ref nc, .int (nI mz)])), (nc, .inl (cI, 17, .inl (gA g)))]) [1, 2] (by decide) rfl
        have hFc := va_free (wc := [(na, .inr (3, [.ref nc, .int (nI mz)])), (nc, .inl (cI, 17, .inl (gA g)))]) hD hS hA [1, 2] rfl
        refine va_callv (va_runV (As := [.int (nI bs), .int (nI (bs - 1))]) (rest := []) ⟨hx, hb, hml, hown, hts⟩ (c_X3_multiplyAndAdd l dC dI cI H.size na nc mz g bs (bs - 1) (bs ^ i - 1) hok (by omega) (by omega) (by omega) (by rw [pow_pred (by omega)]; have h9 := pow_big (b := bs) (m := i + 1) hb2 (by omega); omega)) (cwV 2 hts gX4_widthOf_X3_multiplyAndAdd rfl rfl rfl (by decide +kernel) ⟨Nat.le_of_ble_eq_true rfl, Nat.le_of_ble_eq_true rfl⟩) ⟨gPc_blind, va_recv hK hPc (ci := 3) (q0 := 0) rfl rfl, gPc_pre hPc hK hDc⟩ rfl rfl hl.1 rfl (lv_room (Nat.le_of_ble_eq_true rfl)) dX4_widthOf_22 ⟨Nat.zero_le _, Nat.zero_le _⟩) hS (fun q _ h => hFc q h) hFc (fun u8 t8 H1 locs ht hvm hw hB hz1 hk1 hS => ?_)
        obtain ⟨f9_2, m9_2⟩ := u8
        try dsimp only at hw hB
        obtain ⟨hP, hD⟩ := gB_join (wr := [(ro, .inr (4, [.ref rc, .int (nI n), .int (nI bs)]))]) (w2 := [(ro, .inr (4, [.ref rc, .int (nI n), .int (nI bs)])), (na, .inr (3, [.ref nc, .int (nI m9_2)])), (nc, .inl (cI, 17, .inl (gA f9_2)))]) hP hD [1, 2] [0] rfl rfl (by decide) (by decide) hk1 hFc ht hB rfl
        clear hk1 hz1 ht hB hvm hPc hDc hFc
        generalize H1 = H at hP hS ⊢
        have hok2 := hw
        refine lv_iinc (v := nI (i + 1)) (lv' := [(3, .int (nI (i + 1))), (0, .ref ro), (1, .int (nI nm)), (2, .ref na)]) hx hb dX4_widthOf_25 hl (k := 0) rfl (gz_inc1 _) (by decide) rfl (fun ls hl => ?_)
        refine lv_goto (tgt := 6) hx hb dX4_widthOf_28 (by decide) ?_
        exact ih9_6 _ (by omega) (i + 1) f9_2 m9_2 rfl (by omega) (by rw [← pow_pred (by omega)]; exact hok2) _ _ hP hD hS _ hl
  exact L6 _ 0 f9_1 0 rfl (by omega) (by rw [Nat.pow_zero]; exact NatOk.empty hcl) _ _ hP hD hS _ hl

set_option maxHeartbeats 4000000 in
set_option maxRecDepth 100000 in
/-- Row.readPart -/
theorem c_X4_readPart (l : Launch) (dC : Nat → ClassId) (dI : Nat → Nat → Nat) (cI : ClassId) (sz : Nat) (ro : Nat) (rc : Nat) (n : Nat) (bs : Nat) (f : Nat → Nat) (na : Nat) (nc : Nat) (k0 : Nat) (f0 : Nat → Nat) (fr : Nat) (ln : Nat) (lf : Nat) (hb1 : 2 ≤ bs) (hb2 : bs ≤ 65536) (hln : ln ≤ 32) (hs : fr + ln ≤ 64) (hlf : lf ≤ 1) (hd : ∀ q, fr ≤ q → q < fr + ln → f q < bs) : Met l yX4_readPart wsX4_readPart ({ frames := 3, cells := 0, slots := 0, locals := 70 }) (gPc dC dI cI [.ref ro, .int (nI fr), .int (nI ln), .int (nI lf), .ref na] [(ro, .inr (4, [.ref rc, .int (nI n), .int (nI bs)])), (rc, .inl (cI, 64, .inl (gA f))), (na, .inr (3, [.ref nc, .int (nI k0)])), (nc, .inl (cI, 17, .inl (gA f0)))] sz) (va_Qv (fun u : (Nat → Nat) × Nat => (NatOk u.1 u.2 (dgv bs (fun q => f (plc lf fr ln q)) 0 ln))) (fun u t => gB dC dI cI (va_A [(ro, .inr (4, [.ref rc, .int (nI n), .int (nI bs)])), (rc, .inl (cI, 64, .inl (gA f))), (na, .inr (3, [.ref nc, .int (nI k0)])), (nc, .inl (cI, 17, .inl (gA f0)))] sz) [(ro, .inr (4, [.ref rc, .int (nI n), .int (nI bs)])), (rc, .inl (cI, 64, .inl (gA f))), (na, .inr (3, [.ref nc, .int (nI u.2)])), (nc, .inl (cI, 17, .inl (gA u.1)))] t) (va_A [(ro, .inr (4, [.ref rc, .int (nI n), .int (nI bs)])), (rc, .inl (cI, 64, .inl (gA f))), (na, .inr (3, [.ref nc, .int (nI k0)])), (nc, .inl (cI, 17, .inl (gA f0)))] sz)) 0 0 (va_A [(ro, .inr (4, [.ref rc, .int (nI n), .int (nI bs)])), (rc, .inl (cI, 64, .inl (gA f))), (na, .inr (3, [.ref nc, .int (nI k0)])), (nc, .inl (cI, 17, .inl (gA f0)))] sz) := by
  refine Met.ofW (cc := cX4_readPart) (maxL := 6) (ret := none) (by decide) rfl ?_
  intro p e s m args below meth c s₁ B9 hml hv
  obtain ⟨rfl, hsz, ⟨hP, hK, hD0⟩⟩ := hv
  have hx := B9.exec
  have hb := B9.bytes
  have hr := B9.returns
  have hts := atoms_spec (ws := wsX4_readPart) B9.pre
  have hown : s.vm.findClass RX4 = some m.cls := findClass_of_methodNamed B9.named
  have hlocks := B9.notSynchronized
  subst hsz
  have hD := hD0.self (sz := s.heap.size)
  generalize hAe : va_A [(ro, .inr (4, [.ref rc, .int (nI n), .int (nI bs)])), (rc, .inl (cI, 64, .inl (gA f))), (na, .inr (3, [.ref nc, .int (nI k0)])), (nc, .inl (cI, 17, .inl (gA f0)))] s.heap.size = A at hD ⊢
  have hA : ∀ q : Nat, s.heap.size ≤ q → A q := fun q h => by rw [← hAe]; exact Or.inr h
  have hS : va_S A s.heap s.heap [] := va_S.rf
  have hl := lv_entry ([.ref ro, .int (nI fr), .int (nI ln), .int (nI lf), .ref na]) (n := 6) (Nat.le_of_ble_eq_true rfl)
  rw [lg_entry_eq]
  generalize (lg_sl ([.ref ro, .int (nI fr), .int (nI ln), .int (nI lf), .ref na]) ++ List.replicate (6 - (lg_sl ([.ref ro, .int (nI fr), .int (nI ln), .int (nI lf), .ref na])).length) Slot.unset).toArray = ls at hl ⊢
  have hl : lv_has ls 6 [(0, .ref ro), (1, .int (nI fr)), (2, .int (nI ln)), (3, .int (nI lf)), (4, .ref na)] := hl
  refine lv_aload hx hb dX4_readPart_0 (lv_at hl 4 rfl) ?_
  have hPc := hP.sub (ws' := [(na, .inr (3, [.ref nc, .int (nI k0)])), (nc, .inl (cI, 17, .inl (gA f0)))]) [2, 3] rfl
  have hDc := hD.sub (ws' := [(na, .inr (3, [.ref nc, .int (nI k0)])), (nc, .inl (cI, 17, .inl (gA f0)))]) [2, 3] (by decide) rfl
  have hFc := va_free (wc := [(na, .inr (3, [.ref nc, .int (nI k0)])), (nc, .inl (cI, 17, .inl (gA f0)))]) hD hS hA [2, 3] rfl
  refine va_callv (va_runV (As := []) (rest := []) ⟨hx, hb, hml, hown, hts⟩ (c_X3_clear l dC dI cI s.heap.size na nc k0 f0 ) (cwV 0 hts gX4_readPart_X3_clear rfl rfl rfl (by decide +kernel) ⟨Nat.le_of_ble_eq_true rfl, Nat.le_of_ble_eq_true rfl⟩) ⟨gPc_blind, va_recv hK hPc (ci := 3) (q0 := 0) rfl rfl, gPc_pre hPc hK hDc⟩ rfl rfl hl.1 rfl (lv_room (Nat.le_of_ble_eq_true rfl)) dX4_readPart_2 ⟨Nat.zero_le _, Nat.zero_le _⟩) hS (fun q _ h => hFc q h) hFc (fun u8 t8 H1 locs ht hvm hw hB hz1 hk1 hS => ?_)
  obtain ⟨f9_1, rfl⟩ : ∃ z, z = u8 := ⟨_, rfl⟩
  try dsimp only at hw hB
  obtain ⟨hP, hD⟩ := gB_join (wr := [(ro, .inr (4, [.ref rc, .int (nI n), .int (nI bs)])), (rc, .inl (cI, 64, .inl (gA f)))]) (w2 := [(ro, .inr (4, [.ref rc, .int (nI n), .int (nI bs)])), (rc, .inl (cI, 64, .inl (gA f))), (na, .inr (3, [.ref nc, .int (nI 0)])), (nc, .inl (cI, 17, .inl (gA f9_1)))]) hP hD [2, 3] [0, 1] rfl rfl (by decide) (by decide) hk1 hFc ht hB rfl
  clear hk1 hz1 ht hB hvm hPc hDc hFc
  generalize H1 = H at hP hS ⊢
  have hcl := hw
  refine lv_iload_n hx hb dX4_readPart_5 rfl (lv_at hl 2 rfl) ?_
  refine lv_iconst (v := nI 1) hx hb dX4_readPart_6 (by decide) ?_
  refine lv_isub hx hb dX4_readPart_7 ?_
  refine gv_top (y := nI ln - 1) rfl ?_
  refine lv_istore (lv' := [(5, .int (nI ln - 1)), (0, .ref ro), (1, .int (nI fr)), (2, .int (nI ln)), (3, .int (nI lf)), (4, .ref na)]) hx hb dX4_readPart_8 hl (by decide) rfl (fun ls hl => ?_)
  refine gw_lab (G := fun R args Q => ∀ (n9_10 : Nat) (j : Nat) (g : Nat → Nat) (mz : Nat), n9_10 = j → (j ≤ ln) → (NatOk g mz (dgv bs (fun q => f (plc lf fr ln q)) j (ln - j))) → ∀ (H : Heap) (locs : List Loc), va_P (dC, dI) vwCl [(ro, .inr (4, [.ref rc, .int (nI n), .int (nI bs)])), (rc, .inl (cI, 64, .inl (gA f))), (na, .inr (3, [.ref nc, .int (nI mz)])), (nc, .inl (cI, 17, .inl (gA g)))] H → va_D A [(ro, .inr (4, [.ref rc, .int (nI n), .int (nI bs)])), (rc, .inl (cI, 64, .inl (gA f))), (na, .inr (3, [.ref nc, .int (nI mz)])), (nc, .inl (cI, 17, .inl (gA g)))] → va_S A s.heap H locs → ∀ (ls : Array Slot), lv_has ls 6 [(5, .int (nI j - 1)), (0, .ref ro), (1, .int (nI fr)), (2, .int (nI ln)), (3, .int (nI lf)), (4, .ref na)] → W p l e R s m args below meth c H locs 0 0 Q (F0 m 10 ls [])) ?_ (fun L10 => ?_)
  ·
    intro n9_10
    induction n9_10 using Nat.strongRecOn with
    | ind n9_10 ih9_10 =>
      intro j g mz hmu9_10 hj hok H locs hP hD hS ls hl
      rcases j with _ | j
      ·
        refine lv_iload hx hb dX4_readPart_10 (lv_at hl 0 rfl) ?_
        refine lv_if_lt (tgt := 43) hx hb dX4_readPart_12 (by decide) (fun _ => ?_) (fun c9 => absurd (by decide) c9)
        exact W.vret hx hb hr (fun t ht hW => ⟨⟨(g, mz), rfl, (by rw [Nat.sub_zero] at hok; exact hok), gB_end ht hW hP hK hD⟩, hS.F ht⟩) hS.2.2 dX4_readPart_43
      ·
        rw [nI_pred j] at hl
        refine lv_iload hx hb dX4_readPart_10 (lv_at hl 0 rfl) ?_
        refine gv_if_lt (tgt := 43) hx hb dX4_readPart_12 (by decide) (by omega) ?_
        have hpl := plc_in (lf := lf) (fr := fr) (ln := ln) (k := j) (by omega)
        have hdj : f (plc lf fr ln j) < bs := hd _ hpl.1 hpl.2
        have hlt : dgv bs (fun q => f (plc lf fr ln q)) j (ln - (j + 1) + 1) < bs ^ (ln - (j + 1) + 1) := dgv_lt (fun q h1 h2 => hd _ (plc_in (by omega)).1 (plc_in (by omega)).2)
        have hbig := pow_big (b := bs) (m := ln - (j + 1) + 1) hb2 (by omega)
        rw [dgv_low] at hlt
        refine lv_aload hx hb dX4_readPart_15 (lv_at hl 5 rfl) ?_
        refine lv_aload_n hx hb dX4_readPart_17 rfl (lv_at hl 1 rfl) ?_
        refine gv_get (own := RX4) (D := (dC, dI)) (ci := 4) (C := RX4) (T := TX4) (N := 3) (v := .int (nI bs)) hx hb hts (by decide +kernel) hown hK hP 0 rfl rfl 2 (by decide) (hts (.fieldLink RX4 15 "NumeralCipher$Row" "base" "I") (by decide +kernel)) rfl rfl dX4_readPart_18 ?_
        refine lv_aload_n hx hb dX4_readPart_21 rfl (lv_at hl 1 rfl) ?_
        refine gv_get (own := RX4) (D := (dC, dI)) (ci := 4) (C := RX4) (T := TX4) (N := 3) (v := .ref rc) hx hb hts (by decide +kernel) hown hK hP 0 rfl rfl 0 (by decide) (hts (.fieldLink RX4 9 "NumeralCipher$Row" "cells" "[I") (by decide +kernel)) rfl rfl dX4_readPart_22 ?_
        refine lv_iload hx hb dX4_readPart_25 (lv_at hl 0 rfl) ?_
        refine lv_iload_n hx hb dX4_readPart_27 rfl (lv_at hl 2 rfl) ?_
        refine lv_iload_n hx hb dX4_readPart_28 rfl (lv_at hl 3 rfl) ?_
        refine lv_iload_n hx hb dX4_readPart_29 rfl (lv_at hl 4 rfl) ?_
        refine gv_callR (W.runS (As := [.int (nI j), .int (nI fr), .int (nI ln), .int (nI lf)]) (rest := [.ref rc, .int (nI bs), .ref na]) ⟨hx, hb, hml, hown, hts⟩ (c_X4_placeOf l j fr ln lf (by omega) (by omega) (by omega)) (va_cwS 4 hts gX4_readPart_X4_placeOf rfl rfl rfl (by decide +kernel) ⟨Nat.le_of_ble_eq_true rfl, Nat.le_of_ble_eq_true rfl⟩) ⟨fun a U g mk q => q, fun U hU hW => ⟨rfl, trivial⟩⟩ rfl rfl hl.1 rfl (lv_room (Nat.le_of_ble_eq_true rfl)) dX4_readPart_30 ⟨Nat.zero_le _, Nat.zero_le _⟩) ?_
        refine gv_iald hx hb hK hP 1 0 rfl rfl (by omega) (by omega) dX4_readPart_33 ?_
        have hPc := hP.sub (ws' := [(na, .inr (3, [.ref nc, .int (nI mz)])), (nc, .inl (cI, 17, .inl (gA g)))]) [2, 3] rfl
        have hDc := hD.sub (ws' := [(na, .inr (3, [.ref nc, .int (nI mz)])), (nc, .inl (cI, 17, .inl (gA g)))]) [2, 3] (by decide) rfl
        have hFc := va_free (wc := [(na, .inr (3, [.ref nc, .int (nI mz)])), (nc, .inl (cI, 17, .inl (gA g)))]) hD hS hA [2, 3] rfl
        refine va_callv (va_runV (As := [.int (nI bs), .int (nI (f (plc lf fr ln j)))]) (rest := []) ⟨hx, hb, hml, hown, hts⟩ (c_X3_multiplyAndAdd l dC dI cI H.size na nc mz g bs (f (plc lf fr ln j)) (dgv bs (fun q => f (plc lf fr ln q)) (j + 1) (ln - (j + 1))) hok (by omega) (by omega) (by omega) (Nat.lt_trans hlt hbig)) (cwV 2 hts gX4_readPart_X3_multiplyAndAdd rfl rfl rfl (by decide +kernel) ⟨Nat.le_of_ble_eq_true rfl, Nat.le_of_ble_eq_true rfl⟩) ⟨gPc_blind, va_recv hK hPc (ci := 3) (q0 := 0) rfl rfl, gPc_pre hPc hK hDc⟩ rfl rfl hl.1 rfl (lv_room (Nat.le_of_ble_eq_true rfl)) dX4_readPart_34 ⟨Nat.zero_le _, Nat.zero_le _⟩) hS (fun q _ h => hFc q h) hFc (fun u8 t8 H1 locs ht hvm hw hB hz1 hk1 hS => ?_)
        obtain ⟨f9_2, m9_2⟩ := u8
        try dsimp only at hw hB
        obtain ⟨hP, hD⟩ := gB_join (wr := [(ro, .inr (4, [.ref rc, .int (nI n), .int (nI bs)])), (rc, .inl (cI, 64, .inl (gA f)))]) (w2 := [(ro, .inr (4, [.ref rc, .int (nI n), .int (nI bs)])), (rc, .inl (cI, 64, .inl (gA f))), (na, .inr (3, [.ref nc, .int (nI m9_2)])), (nc, .inl (cI, 17, .inl (gA f9_2)))]) hP hD [2, 3] [0, 1] rfl rfl (by decide) (by decide) hk1 hFc ht hB rfl
        clear hk1 hz1 ht hB hvm hPc hDc hFc
        generalize H1 = H at hP hS ⊢
        have hok2 := hw
        refine lv_iinc (v := nI j - 1) (lv' := [(5, .int (nI j - 1)), (0, .ref ro), (1, .int (nI fr)), (2, .int (nI ln)), (3, .int (nI lf)), (4, .ref na)]) hx hb dX4_readPart_37 hl (k := 0) rfl (gz_pred1 _) (by decide) rfl (fun ls hl => ?_)
        refine lv_goto (tgt := 10) hx hb dX4_readPart_40 (by decide) ?_
        exact ih9_10 _ (by omega) j f9_2 m9_2 rfl (by omega) (by rw [show ln - j = (ln - (j + 1)) + 1 by omega, dgv_low]; exact hok2) _ _ hP hD hS _ hl
  exact L10 _ ln f9_1 0 rfl (by omega) (by rw [Nat.sub_self]; exact NatOk.empty hcl) _ _ hP hD hS _ hl

set_option maxHeartbeats 4000000 in
set_option maxRecDepth 100000 in
/-- Row.shiftPart -/
theorem c_X4_shiftPart (l : Launch) (dC : Nat → ClassId) (dI : Nat → Nat → Nat) (cI : ClassId) (sz : Nat) (ro : Nat) (rc : Nat) (n : Nat) (bs : Nat) (f : Nat → Nat) (na : Nat) (nc : Nat) (k0 : Nat) (f0 : Nat → Nat) (fr : Nat) (ln : Nat) (lf : Nat) (bk : Nat) (Y : Nat) (hb1 : 2 ≤ bs) (hb2 : bs ≤ 65536) (hln : ln ≤ 32) (hs : fr + ln ≤ 64) (hlf : lf ≤ 1) (hbk : bk ≤ 1) (hd : ∀ q, fr ≤ q → q < fr + ln → f q < bs) (hok : NatW f0 k0 Y) : Met l yX4_shiftPart wsX4_shiftPart ({ frames := 1, cells := 0, slots := 0, locals := 26 }) (gPc dC dI cI [.ref ro, .int (nI fr), .int (nI ln), .int (nI lf), .ref na, .int (nI bk)] [(ro, .inr (4, [.ref rc, .int (nI n), .int (nI bs)])), (rc, .inl (cI, 64, .inl (gA f))), (na, .inr (3, [.ref nc, .int (nI k0)])), (nc, .inl (cI, 17, .inl (gA f0)))] sz) (va_Qv (fun u : (Nat → Nat) × (Nat → Nat) × Nat => (ShI lf fr ln bk bs Y f u.1 ln)) (fun u t => gB dC dI cI (va_A [(ro, .inr (4, [.ref rc, .int (nI n), .int (nI bs)])), (rc, .inl (cI, 64, .inl (gA f))), (na, .inr (3, [.ref nc, .int (nI k0)])), (nc, .inl (cI, 17, .inl (gA f0)))] sz) [(ro, .inr (4, [.ref rc, .int (nI n), .int (nI bs)])), (rc, .inl (cI, 64, .inl (gA u.1))), (na, .inr (3, [.ref nc, .int (nI u.2.2)])), (nc, .inl (cI, 17, .inl (gA u.2.1)))] t) (va_A [(ro, .inr (4, [.ref rc, .int (nI n), .int (nI bs)])), (rc, .inl (cI, 64, .inl (gA f))), (na, .inr (3, [.ref nc, .int (nI k0)])), (nc, .inl (cI, 17, .inl (gA f0)))] sz)) 0 0 (va_A [(ro, .inr (4, [.ref rc, .int (nI n), .int (nI bs)])), (rc, .inl (cI, 64, .inl (gA f))), (na, .inr (3, [.ref nc, .int (nI k0)])), (nc, .inl (cI, 17, .inl (gA f0)))] sz) := by
  refine Met.ofW (cc := cX4_shiftPart) (maxL := 11) (ret := none) (by decide) rfl ?_
  intro p e s m args below meth c s₁ B9 hml hv
  obtain ⟨rfl, hsz, ⟨hP, hK, hD0⟩⟩ := hv
  have hx := B9.exec
  have hb := B9.bytes
  have hr := B9.returns
  have hts := atoms_spec (ws := wsX4_shiftPart) B9.pre
  have hown : s.vm.findClass RX4 = some m.cls := findClass_of_methodNamed B9.named
  have hlocks := B9.notSynchronized
  subst hsz
  have hD := hD0.self (sz := s.heap.size)
  generalize hAe : va_A [(ro, .inr (4, [.ref rc, .int (nI n), .int (nI bs)])), (rc, .inl (cI, 64, .inl (gA f))), (na, .inr (3, [.ref nc, .int (nI k0)])), (nc, .inl (cI, 17, .inl (gA f0)))] s.heap.size = A at hD ⊢
  have hA : ∀ q : Nat, s.heap.size ≤ q → A q := fun q h => by rw [← hAe]; exact Or.inr h
  have hS : va_S A s.heap s.heap [] := va_S.rf
  have hl := lv_entry ([.ref ro, .int (nI fr), .int (nI ln), .int (nI lf), .ref na, .int (nI bk)]) (n := 11) (Nat.le_of_ble_eq_true rfl)
  rw [lg_entry_eq]
  generalize (lg_sl ([.ref ro, .int (nI fr), .int (nI ln), .int (nI lf), .ref na, .int (nI bk)]) ++ List.replicate (11 - (lg_sl ([.ref ro, .int (nI fr), .int (nI ln), .int (nI lf), .ref na, .int (nI bk)])).length) Slot.unset).toArray = ls at hl ⊢
  have hl : lv_has ls 11 [(0, .ref ro), (1, .int (nI fr)), (2, .int (nI ln)), (3, .int (nI lf)), (4, .ref na), (5, .int (nI bk))] := hl
  refine lv_iconst (v := nI 0) hx hb dX4_shiftPart_0 (by decide) ?_
  refine gv_top (y := nI (shC bk bs Y (fun q => f (plc lf fr ln q)) 0)) rfl ?_
  refine lv_istore (lv' := [(6, .int (nI (shC bk bs Y (fun q => f (plc lf fr ln q)) 0))), (0, .ref ro), (1, .int (nI fr)), (2, .int (nI ln)), (3, .int (nI lf)), (4, .ref na), (5, .int (nI bk))]) hx hb dX4_shiftPart_1 hl (by decide) rfl (fun ls hl => ?_)
  refine lv_iconst (v := nI 0) hx hb dX4_shiftPart_3 (by decide) ?_
  refine lv_istore (lv' := [(7, .int (nI 0)), (6, .int (nI (shC bk bs Y (fun q => f (plc lf fr ln q)) 0))), (0, .ref ro), (1, .int (nI fr)), (2, .int (nI ln)), (3, .int (nI lf)), (4, .ref na), (5, .int (nI bk))]) hx hb dX4_shiftPart_4 hl (by decide) rfl (fun ls hl => ?_)
  refine gw_lab (G := fun R args Q => ∀ (n9_6 : Nat) (i : Nat) (g : Nat → Nat) (h : Nat → Nat) (mz : Nat), n9_6 = ln - i → (i ≤ ln) → (ShI lf fr ln bk bs Y f g i) → (NatW h mz (Y / bs ^ i)) → ∀ (H : Heap) (locs : List Loc), va_P (dC, dI) vwCl [(ro, .inr (4, [.ref rc, .int (nI n), .int (nI bs)])), (rc, .inl (cI, 64, .inl (gA g))), (na, .inr (3, [.ref nc, .int (nI mz)])), (nc, .inl (cI, 17, .inl (gA h)))] H → va_D A [(ro, .inr (4, [.ref rc, .int (nI n), .int (nI bs)])), (rc, .inl (cI, 64, .inl (gA g))), (na, .inr (3, [.ref nc, .int (nI mz)])), (nc, .inl (cI, 17, .inl (gA h)))] → va_S A s.heap H locs → ∀ (ls : Array Slot), lv_has ls 11 [(7, .int (nI i)), (6, .int (nI (shC bk bs Y (fun q => f (plc lf fr ln q)) i))), (0, .ref ro), (1, .int (nI fr)), (2, .int (nI ln)), (3, .int (nI lf)), (4, .ref na), (5, .int (nI bk))] → W p l e R s m args below meth c H locs 0 0 Q (F0 m 6 ls [])) ?_ (fun L6 => ?_)
  ·
    intro n9_6
    induction n9_6 using Nat.strongRecOn with
    | ind n9_6 ih9_6 =>
      intro i g h mz hmu9_6 hi hsh hok H locs hP hD hS ls hl
      refine lv_iload hx hb dX4_shiftPart_6 (lv_at hl 0 rfl) ?_
      refine lv_iload_n hx hb dX4_shiftPart_8 rfl (lv_at hl 4 rfl) ?_
      refine gv_icmp_ge (tgt := 127) hx hb dX4_shiftPart_9 (by decide) (by omega) (by omega) (fun c_9 => ?_) (fun c_9 => ?_)
      ·
        have e9 : i = ln := by omega
        rw [e9] at hsh
        exact W.vret hx hb hr (fun t ht hW => ⟨⟨(g, h, mz), rfl, hsh, gB_end ht hW hP hK hD⟩, hS.F ht⟩) hS.2.2 dX4_shiftPart_127
      ·
        have hpl := plc_in (lf := lf) (fr := fr) c_9
        have hdi : f (plc lf fr ln i) < bs := hd _ hpl.1 hpl.2
        have hst := st_le (b := bs) (Y := Y) (k := i) (by omega) (shC_le bk bs Y (fun q => f (plc lf fr ln q)) i)
        have hcl := shC_le bk bs Y (fun q => f (plc lf fr ln q)) i
        refine lv_iload hx hb dX4_shiftPart_12 (lv_at hl 0 rfl) ?_
        refine lv_iload_n hx hb dX4_shiftPart_14 rfl (lv_at hl 3 rfl) ?_
        refine lv_iload_n hx hb dX4_shiftPart_15 rfl (lv_at hl 4 rfl) ?_
        refine lv_iload_n hx hb dX4_shiftPart_16 rfl (lv_at hl 5 rfl) ?_
        refine gv_callR (W.runS (As := [.int (nI i), .int (nI fr), .int (nI ln), .int (nI lf)]) (rest := []) ⟨hx, hb, hml, hown, hts⟩ (c_X4_placeOf l i fr ln lf (by omega) (by omega) (by omega)) (va_cwS 4 hts gX4_shiftPart_X4_placeOf rfl rfl rfl (by decide +kernel) ⟨Nat.le_of_ble_eq_true rfl, Nat.le_of_ble_eq_true rfl⟩) ⟨fun a U g mk q => q, fun U hU hW => ⟨rfl, trivial⟩⟩ rfl rfl hl.1 rfl (lv_room (Nat.le_of_ble_eq_true rfl)) dX4_shiftPart_17 ⟨Nat.zero_le _, Nat.zero_le _⟩) ?_
        refine lv_istore (lv' := [(8, .int (nI (plc lf fr ln i))), (7, .int (nI i)), (6, .int (nI (shC bk bs Y (fun q => f (plc lf fr ln q)) i))), (0, .ref ro), (1, .int (nI fr)), (2, .int (nI ln)), (3, .int (nI lf)), (4, .ref na), (5, .int (nI bk))]) hx hb dX4_shiftPart_20 hl (by decide) rfl (fun ls hl => ?_)
        refine lv_aload hx hb dX4_shiftPart_22 (lv_at hl 7 rfl) ?_
        refine lv_aload_n hx hb dX4_shiftPart_24 rfl (lv_at hl 3 rfl) ?_
        refine gv_get (own := RX4) (D := (dC, dI)) (ci := 4) (C := RX4) (T := TX4) (N := 3) (v := .int (nI bs)) hx hb hts (by decide +kernel) hown hK hP 0 rfl rfl 2 (by decide) (hts (.fieldLink RX4 15 "NumeralCipher$Row" "base" "I") (by decide +kernel)) rfl rfl dX4_shiftPart_25 ?_
        have hPc := hP.sub (ws' := [(na, .inr (3, [.ref nc, .int (nI mz)])), (nc, .inl (cI, 17, .inl (gA h)))]) [2, 3] rfl
        have hDc := hD.sub (ws' := [(na, .inr (3, [.ref nc, .int (nI mz)])), (nc, .inl (cI, 17, .inl (gA h)))]) [2, 3] (by decide) rfl
        have hFc := va_free (wc := [(na, .inr (3, [.ref nc, .int (nI mz)])), (nc, .inl (cI, 17, .inl (gA h)))]) hD hS hA [2, 3] rfl
        refine va_calli (va_runV (As := [.int (nI bs)]) (rest := []) ⟨hx, hb, hml, hown, hts⟩ (c_X3_divide l dC dI cI H.size na nc mz h bs (Y / bs ^ i) hok (by omega) (by omega)) (cwV 1 hts gX4_shiftPart_X3_divide rfl rfl rfl (by decide +kernel) ⟨Nat.le_of_ble_eq_true rfl, Nat.le_of_ble_eq_true rfl⟩) ⟨gPc_blind, va_recv hK hPc (ci := 3) (q0 := 0) rfl rfl, gPc_pre hPc hK hDc⟩ rfl rfl hl.1 rfl (lv_room (Nat.le_of_ble_eq_true rfl)) dX4_shiftPart_28 ⟨Nat.zero_le _, Nat.zero_le _⟩) hS (fun q _ h => hFc q h) hFc (fun r9 u8 t8 H1 locs ht hvm hw hB hz1 hk1 hS => ?_)
        obtain ⟨f9_1, m9_1⟩ := u8
        try dsimp only at hw hB
        obtain ⟨hP, hD⟩ := gB_join (wr := [(ro, .inr (4, [.ref rc, .int (nI n), .int (nI bs)])), (rc, .inl (cI, 64, .inl (gA g)))]) (w2 := [(ro, .inr (4, [.ref rc, .int (nI n), .int (nI bs)])), (rc, .inl (cI, 64, .inl (gA g))), (na, .inr (3, [.ref nc, .int (nI m9_1)])), (nc, .inl (cI, 17, .inl (gA f9_1)))]) hP hD [2, 3] [0, 1] rfl rfl (by decide) (by decide) hk1 hFc ht hB rfl
        clear hk1 hz1 ht hB hvm hPc hDc hFc
        generalize H1 = H at hP hS ⊢
        obtain ⟨rfl, hok2⟩ := hw
        refine lv_iload hx hb dX4_shiftPart_31 (lv_at hl 2 rfl) ?_
        refine gv_iadd (r := ((Y / bs ^ i) % bs) + (shC bk bs Y (fun q => f (plc lf fr ln q)) i)) hx hb dX4_shiftPart_33 rfl ?_
        refine lv_istore (lv' := [(9, .int (nI (((Y / bs ^ i) % bs) + (shC bk bs Y (fun q => f (plc lf fr ln q)) i)))), (8, .int (nI (plc lf fr ln i))), (7, .int (nI i)), (6, .int (nI (shC bk bs Y (fun q => f (plc lf fr ln q)) i))), (0, .ref ro), (1, .int (nI fr)), (2, .int (nI ln)), (3, .int (nI lf)), (4, .ref na), (5, .int (nI bk))]) hx hb dX4_shiftPart_34 hl (by decide) rfl (fun ls hl => ?_)
        refine gw_lab (G := fun R args Q =>  ∀ (H : Heap) (locs : List Loc), va_P (dC, dI) vwCl [(ro, .inr (4, [.ref rc, .int (nI n), .int (nI bs)])), (rc, .inl (cI, 64, .inl (gA g))), (na, .inr (3, [.ref nc, .int (nI m9_1)])), (nc, .inl (cI, 17, .inl (gA f9_1)))] H → va_D A [(ro, .inr (4, [.ref rc, .int (nI n), .int (nI bs)])), (rc, .inl (cI, 64, .inl (gA g))), (na, .inr (3, [.ref nc, .int (nI m9_1)])), (nc, .inl (cI, 17, .inl (gA f9_1)))] → va_S A s.heap H locs → ∀ (ls : Array Slot), lv_has ls 11 [(9, .int (nI (Y / bs ^ i % bs + shC bk bs Y (fun q => f (plc lf fr ln q)) i))), (8, .int (nI (plc lf fr ln i))), (7, .int (nI i)), (6, .int (nI (shC bk bs Y (fun q => f (plc lf fr ln q)) i))), (0, .ref ro), (1, .int (nI fr)), (2, .int (nI ln)), (3, .int (nI lf)), (4, .ref na), (5, .int (nI bk))] → W p l e R s m args below meth c H locs 0 0 Q (F0 m 64 ls [.int (shV bk (f (plc lf fr ln i)) (Y / bs ^ i % bs + shC bk bs Y (fun q => f (plc lf fr ln q)) i))])) ?_ (fun L64 => ?_)
        ·
          intro  H locs hP hD hS ls hl
          refine lv_istore (lv' := [(10, .int (shV bk (f (plc lf fr ln i)) (Y / bs ^ i % bs + shC bk bs Y (fun q => f (plc lf fr ln q)) i))), (9, .int (nI (Y / bs ^ i % bs + shC bk bs Y (fun q => f (plc lf fr ln q)) i))), (8, .int (nI (plc lf fr ln i))), (7, .int (nI i)), (6, .int (nI (shC bk bs Y (fun q => f (plc lf fr ln q)) i))), (0, .ref ro), (1, .int (nI fr)), (2, .int (nI ln)), (3, .int (nI lf)), (4, .ref na), (5, .int (nI bk))]) hx hb dX4_shiftPart_64 hl (by decide) rfl (fun ls hl => ?_)
          refine gw_lab (G := fun R args Q =>  ∀ (H : Heap) (locs : List Loc), va_P (dC, dI) vwCl [(ro, .inr (4, [.ref rc, .int (nI n), .int (nI bs)])), (rc, .inl (cI, 64, .inl (gA g))), (na, .inr (3, [.ref nc, .int (nI m9_1)])), (nc, .inl (cI, 17, .inl (gA f9_1)))] H → va_D A [(ro, .inr (4, [.ref rc, .int (nI n), .int (nI bs)])), (rc, .inl (cI, 64, .inl (gA g))), (na, .inr (3, [.ref nc, .int (nI m9_1)])), (nc, .inl (cI, 17, .inl (gA f9_1)))] → va_S A s.heap H locs → ∀ (ls : Array Slot), lv_has ls 11 [(10, .int (shV bk (f (plc lf fr ln i)) (Y / bs ^ i % bs + shC bk bs Y (fun q => f (plc lf fr ln q)) i))), (9, .int (nI (Y / bs ^ i % bs + shC bk bs Y (fun q => f (plc lf fr ln q)) i))), (8, .int (nI (plc lf fr ln i))), (7, .int (nI i)), (0, .ref ro), (1, .int (nI fr)), (2, .int (nI ln)), (3, .int (nI lf)), (4, .ref na), (5, .int (nI bk))] → W p l e R s m args below meth c H locs 0 0 Q (F0 m 80 ls [.int (nI (shC bk bs Y (fun q => f (plc lf fr ln q)) (i + 1)))])) ?_ (fun L80 => ?_)
          ·
            intro  H locs hP hD hS ls hl
            refine lv_istore (lv' := [(6, .int (nI (shC bk bs Y (fun q => f (plc lf fr ln q)) (i + 1)))), (10, .int (shV bk (f (plc lf fr ln i)) (Y / bs ^ i % bs + shC bk bs Y (fun q => f (plc lf fr ln q)) i))), (9, .int (nI (Y / bs ^ i % bs + shC bk bs Y (fun q => f (plc lf fr ln q)) i))), (8, .int (nI (plc lf fr ln i))), (7, .int (nI i)), (0, .ref ro), (1, .int (nI fr)), (2, .int (nI ln)), (3, .int (nI lf)), (4, .ref na), (5, .int (nI bk))]) hx hb dX4_shiftPart_80 hl (by decide) rfl (fun ls hl => ?_)
            refine gw_lab (G := fun R args Q =>  ∀ (H : Heap) (locs : List Loc), va_P (dC, dI) vwCl [(ro, .inr (4, [.ref rc, .int (nI n), .int (nI bs)])), (rc, .inl (cI, 64, .inl (gA g))), (na, .inr (3, [.ref nc, .int (nI m9_1)])), (nc, .inl (cI, 17, .inl (gA f9_1)))] H → va_D A [(ro, .inr (4, [.ref rc, .int (nI n), .int (nI bs)])), (rc, .inl (cI, 64, .inl (gA g))), (na, .inr (3, [.ref nc, .int (nI m9_1)])), (nc, .inl (cI, 17, .inl (gA f9_1)))] → va_S A s.heap H locs → ∀ (ls : Array Slot), lv_has ls 11 [(10, .int (nI (shR bk bs Y (fun q => f (plc lf fr ln q)) i))), (6, .int (nI (shC bk bs Y (fun q => f (plc lf fr ln q)) (i + 1)))), (8, .int (nI (plc lf fr ln i))), (7, .int (nI i)), (0, .ref ro), (1, .int (nI fr)), (2, .int (nI ln)), (3, .int (nI lf)), (4, .ref na), (5, .int (nI bk))] → W p l e R s m args below meth c H locs 0 0 Q (F0 m 112 ls [])) ?_ (fun L112 => ?_)
            ·
              intro  H locs hP hD hS ls hl
              refine lv_aload_n hx hb dX4_shiftPart_112 rfl (lv_at hl 4 rfl) ?_
              refine gv_get (own := RX4) (D := (dC, dI)) (ci := 4) (C := RX4) (T := TX4) (N := 3) (v := .ref rc) hx hb hts (by decide +kernel) hown hK hP 0 rfl rfl 0 (by decide) (hts (.fieldLink RX4 9 "NumeralCipher$Row" "cells" "[I") (by decide +kernel)) rfl rfl dX4_shiftPart_113 ?_
              refine lv_iload hx hb dX4_shiftPart_116 (lv_at hl 2 rfl) ?_
              refine lv_iload hx hb dX4_shiftPart_118 (lv_at hl 0 rfl) ?_
              refine gv_iast (ws' := [(ro, .inr (4, [.ref rc, .int (nI n), .int (nI bs)])), (rc, .inl (cI, 64, .inl (gA (gU g (plc lf fr ln i) (shR bk bs Y (fun q => f (plc lf fr ln q)) i))))), (na, .inr (3, [.ref nc, .int (nI m9_1)])), (nc, .inl (cI, 17, .inl (gA f9_1)))]) hx hb hK hP hD hS 1 0 rfl rfl rfl (by omega) (by omega) dX4_shiftPart_120 (fun H locs hP hD hS => ?_)
              refine lv_iinc (v := nI (i + 1)) (lv' := [(7, .int (nI (i + 1))), (10, .int (nI (shR bk bs Y (fun q => f (plc lf fr ln q)) i))), (6, .int (nI (shC bk bs Y (fun q => f (plc lf fr ln q)) (i + 1)))), (8, .int (nI (plc lf fr ln i))), (0, .ref ro), (1, .int (nI fr)), (2, .int (nI ln)), (3, .int (nI lf)), (4, .ref na), (5, .int (nI bk))]) hx hb dX4_shiftPart_121 hl (k := 3) rfl (gz_inc1 _) (by decide) rfl (fun ls hl => ?_)
              refine lv_goto (tgt := 6) hx hb dX4_shiftPart_124 (by decide) ?_
              exact ih9_6 _ (by omega) (i + 1) (gU g (plc lf fr ln i) (shR bk bs Y (fun q => f (plc lf fr ln q)) i)) f9_1 m9_1 rfl (by omega) (ShI.step hsh c_9 rfl) (by rw [Nat.pow_succ, ← Nat.div_div_eq_div_mul]; exact hok2.w) _ _ hP hD hS _ (lv_sub hl [0, 2, 4, 5, 6, 7, 8, 9] rfl)
            refine lv_iload hx hb dX4_shiftPart_82 (lv_at hl 0 rfl) ?_
            refine lv_iconst (v := nI 1) hx hb dX4_shiftPart_84 (by decide) ?_
            refine gv_icmp_ne (tgt := 112) hx hb dX4_shiftPart_85 (by decide) (by have h9 := shC_le bk bs Y (fun q => f (plc lf fr ln q)) (i + 1); omega) (by decide) (fun c_85 => ?_) (fun c_85 => ?_)
            ·
              have e10 := shV_a (d := (fun q => f (plc lf fr ln q))) (k := i) c_85
              rw [e10] at hl
              exact L112   _ _ hP hD hS _ (lv_sub hl [1, 0, 3, 4, 5, 6, 7, 8, 9, 10] rfl)
            ·
              refine lv_iload hx hb dX4_shiftPart_88 (lv_at hl 10 rfl) ?_
              refine gv_if_eq (tgt := 103) hx hb dX4_shiftPart_90 (by decide) (by omega) (fun c_90 => ?_) (fun c_90 => ?_)
              ·
                refine lv_iload hx hb dX4_shiftPart_103 (lv_at hl 1 rfl) ?_
                refine lv_aload_n hx hb dX4_shiftPart_105 rfl (lv_at hl 5 rfl) ?_
                refine gv_get (own := RX4) (D := (dC, dI)) (ci := 4) (C := RX4) (T := TX4) (N := 3) (v := .int (nI bs)) hx hb hts (by decide +kernel) hown hK hP 0 rfl rfl 2 (by decide) (hts (.fieldLink RX4 15 "NumeralCipher$Row" "base" "I") (by decide +kernel)) rfl rfl dX4_shiftPart_106 ?_
                refine lv_isub hx hb dX4_shiftPart_109 ?_
                refine gv_top (y := (nI (shR bk bs Y (fun q => f (plc lf fr ln q)) i))) (shV_b (d := (fun q => f (plc lf fr ln q))) (k := i) c_85 c_90) ?_
                refine lv_istore (lv' := [(10, .int (nI (shR bk bs Y (fun q => f (plc lf fr ln q)) i))), (6, .int (nI (shC bk bs Y (fun q => f (plc lf fr ln q)) (i + 1)))), (9, .int (nI (Y / bs ^ i % bs + shC bk bs Y (fun q => f (plc lf fr ln q)) i))), (8, .int (nI (plc lf fr ln i))), (7, .int (nI i)), (0, .ref ro), (1, .int (nI fr)), (2, .int (nI ln)), (3, .int (nI lf)), (4, .ref na), (5, .int (nI bk))]) hx hb dX4_shiftPart_110 hl (by decide) rfl (fun ls hl => ?_)
                exact L112   _ _ hP hD hS _ (lv_sub hl [0, 1, 3, 4, 5, 6, 7, 8, 9, 10] rfl)
              ·
                refine lv_iload hx hb dX4_shiftPart_93 (lv_at hl 1 rfl) ?_
                refine lv_aload_n hx hb dX4_shiftPart_95 rfl (lv_at hl 5 rfl) ?_
                refine gv_get (own := RX4) (D := (dC, dI)) (ci := 4) (C := RX4) (T := TX4) (N := 3) (v := .int (nI bs)) hx hb hts (by decide +kernel) hown hK hP 0 rfl rfl 2 (by decide) (hts (.fieldLink RX4 15 "NumeralCipher$Row" "base" "I") (by decide +kernel)) rfl rfl dX4_shiftPart_96 ?_
                refine lv_iadd hx hb dX4_shiftPart_99 ?_
                refine gv_top (y := (nI (shR bk bs Y (fun q => f (plc lf fr ln q)) i))) (shV_c (d := (fun q => f (plc lf fr ln q))) (k := i) c_85 c_90 (by omega) hb2) ?_
                refine lv_goto (tgt := 110) hx hb dX4_shiftPart_100 (by decide) ?_
                refine lv_istore (lv' := [(10, .int (nI (shR bk bs Y (fun q => f (plc lf fr ln q)) i))), (6, .int (nI (shC bk bs Y (fun q => f (plc lf fr ln q)) (i + 1)))), (9, .int (nI (Y / bs ^ i % bs + shC bk bs Y (fun q => f (plc lf fr ln q)) i))), (8, .int (nI (plc lf fr ln i))), (7, .int (nI i)), (0, .ref ro), (1, .int (nI fr)), (2, .int (nI ln)), (3, .int (nI lf)), (4, .ref na), (5, .int (nI bk))]) hx hb dX4_shiftPart_110 hl (by decide) rfl (fun ls hl => ?_)
                exact L112   _ _ hP hD hS _ (lv_sub hl [0, 1, 3, 4, 5, 6, 7, 8, 9, 10] rfl)
          refine lv_aload_n hx hb dX4_shiftPart_66 rfl (lv_at hl 5 rfl) ?_
          refine lv_iload hx hb dX4_shiftPart_67 (lv_at hl 0 rfl) ?_
          have hPc := hP.sub (ws' := [(ro, .inr (4, [.ref rc, .int (nI n), .int (nI bs)]))]) [0] rfl
          have hDc := hD.sub (ws' := [(ro, .inr (4, [.ref rc, .int (nI n), .int (nI bs)]))]) [0] (by decide) rfl
          refine gv_callR (W.runV (As := [.int (shV bk (f (plc lf fr ln i)) (Y / bs ^ i % bs + shC bk bs Y (fun q => f (plc lf fr ln q)) i))]) (rest := []) ⟨hx, hb, hml, hown, hts⟩ (c_X4_isNumeral l dC dI cI H.size ro rc n bs (shV bk (f (plc lf fr ln i)) (Y / bs ^ i % bs + shC bk bs Y (fun q => f (plc lf fr ln q)) i)) (by omega)) (cwV 1 hts gX4_shiftPart_X4_isNumeral rfl rfl rfl (by decide +kernel) ⟨Nat.le_of_ble_eq_true rfl, Nat.le_of_ble_eq_true rfl⟩) ⟨gPc_blind, va_recv hK hPc (ci := 4) (q0 := 0) rfl rfl, gPc_pre hPc hK hDc⟩ rfl rfl hl.1 rfl (lv_room (Nat.le_of_ble_eq_true rfl)) dX4_shiftPart_69 ⟨Nat.zero_le _, Nat.zero_le _⟩) ?_
          clear hPc hDc
          refine gv_if_eq (tgt := 79) hx hb dX4_shiftPart_72 (by decide) (by split <;> decide) (fun c_72 => ?_) (fun c_72 => ?_)
          ·
            have hPn := (show ¬ _ from fun q9 => absurd ((if_pos q9).symm.trans c_72) (by decide))
            refine lv_iconst (v := nI 1) hx hb dX4_shiftPart_79 (by decide) ?_
            refine gv_top (y := nI (shC bk bs Y (fun q => f (plc lf fr ln q)) (i + 1))) (congrArg nI ((shC_num (d := (fun q => f (plc lf fr ln q))) (k := i) hdi hb2).trans (if_neg hPn)).symm) ?_
            exact L80   _ _ hP hD hS _ (lv_sub hl [0, 1, 2, 3, 5, 6, 7, 8, 9, 10] rfl)
          ·
            have hPn := Classical.byContradiction (fun q9 => c_72 (if_neg q9))
            refine lv_iconst (v := nI 0) hx hb dX4_shiftPart_75 (by decide) ?_
            refine gv_top (y := nI (shC bk bs Y (fun q => f (plc lf fr ln q)) (i + 1))) (congrArg nI ((shC_num (d := (fun q => f (plc lf fr ln q))) (k := i) hdi hb2).trans (if_pos hPn)).symm) ?_
            refine lv_goto (tgt := 80) hx hb dX4_shiftPart_76 (by decide) ?_
            exact L80   _ _ hP hD hS _ (lv_sub hl [0, 1, 2, 3, 5, 6, 7, 8, 9, 10] rfl)
        refine lv_iload hx hb dX4_shiftPart_36 (lv_at hl 9 rfl) ?_
        refine gv_if_eq (tgt := 54) hx hb dX4_shiftPart_38 (by decide) (by omega) (fun c_38 => ?_) (fun c_38 => ?_)
        ·
          refine lv_aload_n hx hb dX4_shiftPart_54 rfl (lv_at hl 4 rfl) ?_
          refine gv_get (own := RX4) (D := (dC, dI)) (ci := 4) (C := RX4) (T := TX4) (N := 3) (v := .ref rc) hx hb hts (by decide +kernel) hown hK hP 0 rfl rfl 0 (by decide) (hts (.fieldLink RX4 9 "NumeralCipher$Row" "cells" "[I") (by decide +kernel)) rfl rfl dX4_shiftPart_55 ?_
          refine lv_iload hx hb dX4_shiftPart_58 (lv_at hl 1 rfl) ?_
          refine gv_iald hx hb hK hP 1 0 rfl rfl (by omega) (by omega) dX4_shiftPart_60 ?_
          refine gv_top (y := nI (f (plc lf fr ln i))) (congrArg nI (hsh.here c_9)) ?_
          refine lv_iload hx hb dX4_shiftPart_61 (lv_at hl 0 rfl) ?_
          refine gv_iadd (r := (f (plc lf fr ln i)) + (((Y / bs ^ i) % bs) + (shC bk bs Y (fun q => f (plc lf fr ln q)) i))) hx hb dX4_shiftPart_63 rfl ?_
          refine gv_top (y := (shV bk (f (plc lf fr ln i)) (Y / bs ^ i % bs + shC bk bs Y (fun q => f (plc lf fr ln q)) i))) ((if_pos c_38).symm) ?_
          exact L64   _ _ hP hD hS _ hl
        ·
          refine lv_aload_n hx hb dX4_shiftPart_41 rfl (lv_at hl 4 rfl) ?_
          refine gv_get (own := RX4) (D := (dC, dI)) (ci := 4) (C := RX4) (T := TX4) (N := 3) (v := .ref rc) hx hb hts (by decide +kernel) hown hK hP 0 rfl rfl 0 (by decide) (hts (.fieldLink RX4 9 "NumeralCipher$Row" "cells" "[I") (by decide +kernel)) rfl rfl dX4_shiftPart_42 ?_
          refine lv_iload hx hb dX4_shiftPart_45 (lv_at hl 1 rfl) ?_
          refine gv_iald hx hb hK hP 1 0 rfl rfl (by omega) (by omega) dX4_shiftPart_47 ?_
          refine gv_top (y := nI (f (plc lf fr ln i))) (congrArg nI (hsh.here c_9)) ?_
          refine lv_iload hx hb dX4_shiftPart_48 (lv_at hl 0 rfl) ?_
          refine lv_isub hx hb dX4_shiftPart_50 ?_
          refine gv_top (y := (shV bk (f (plc lf fr ln i)) (Y / bs ^ i % bs + shC bk bs Y (fun q => f (plc lf fr ln q)) i))) ((if_neg c_38).symm) ?_
          refine lv_goto (tgt := 64) hx hb dX4_shiftPart_51 (by decide) ?_
          exact L64   _ _ hP hD hS _ hl
  exact L6 _ 0 f f0 k0 rfl (by omega) (ShI.start _ _ _ _ _ _ _) (by rw [Nat.pow_zero, Nat.div_one]; exact hok) _ _ hP hD hS _ hl
