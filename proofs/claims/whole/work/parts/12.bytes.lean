set_option maxHeartbeats 4000000 in
set_option maxRecDepth 100000 in
/-- Bytes.wordAt(k) -/
theorem c_X1_wordAt (l : Launch) (dC : Nat → ClassId) (dI : Nat → Nat → Nat) (cI : ClassId) (sz : Nat) (o : Nat) (ce : Nat) (n : Nat) (b : Nat → Nat) (k : Nat) (hk : k < 16) (hb0 : ∀ j, j < 64 → b j < 256) : Met l yX1_wordAt wsX1_wordAt ({ frames := 0, cells := 0, slots := 0, locals := 0 }) (gPc dC dI cI [.ref o, .int (nI k)] [(o, .inr (1, [.ref ce, .int (nI n)])), (ce, .inl (cI, 64, .inl (gA b)))] sz) (QcRead (nI (pkf b k))) 0 0 (fun _ => False) := by
  refine Met.ofW (cc := cX1_wordAt) (maxL := 3) (ret := (some .int)) (by decide) rfl ?_
  intro p e s m args below meth c s₁ B9 hml hv
  obtain ⟨rfl, hsz, ⟨hP, hK, hD0⟩⟩ := hv
  have hx := B9.exec
  have hb := B9.bytes
  have hr := B9.returns
  have hts := atoms_spec (ws := wsX1_wordAt) B9.pre
  have hown : s.vm.findClass RX1 = some m.cls := findClass_of_methodNamed B9.named
  have hlocks := B9.notSynchronized
  subst hsz
  have hD := hD0.self (sz := s.heap.size)
  generalize hAe : va_A [(o, .inr (1, [.ref ce, .int (nI n)])), (ce, .inl (cI, 64, .inl (gA b)))] s.heap.size = A at hD
  have hA : ∀ q : Nat, s.heap.size ≤ q → A q := fun q h => by rw [← hAe]; exact Or.inr h
  have hS : va_S A s.heap s.heap [] := va_S.rf
  have hl := lv_entry ([.ref o, .int (nI k)]) (n := 3) (Nat.le_of_ble_eq_true rfl)
  rw [lg_entry_eq]
  generalize (lg_sl ([.ref o, .int (nI k)]) ++ List.replicate (3 - (lg_sl ([.ref o, .int (nI k)])).length) Slot.unset).toArray = ls at hl ⊢
  have hl : lv_has ls 3 [(0, .ref o), (1, .int (nI k))] := hl
  refine lv_iload_n hx hb dX1_wordAt_0 rfl (lv_at hl 1 rfl) ?_
  refine gv_if_lt (tgt := 10) hx hb dX1_wordAt_1 (by decide) (by omega) ?_
  refine lv_iload_n hx hb dX1_wordAt_4 rfl (lv_at hl 1 rfl) ?_
  refine lv_bipush (v := nI 16) hx hb dX1_wordAt_5 (by decide) ?_
  refine gv_icmp_lt (tgt := 12) hx hb dX1_wordAt_7 (by decide) (by omega) (by omega) (fun c_7 => ?_) (fun c_7 => ?_)
  ·
    refine lv_iconst (v := nI 4) hx hb dX1_wordAt_12 (by decide) ?_
    refine lv_iload_n hx hb dX1_wordAt_13 rfl (lv_at hl 1 rfl) ?_
    refine gv_imul (r := 4 * k) hx hb dX1_wordAt_14 rfl ?_
    refine lv_istore_n (lv' := [(2, .int (nI (4 * k))), (0, .ref o), (1, .int (nI k))]) hx hb dX1_wordAt_15 rfl hl (by decide) rfl (fun ls hl => ?_)
    refine lv_aload_n hx hb dX1_wordAt_16 rfl (lv_at hl 1 rfl) ?_
    refine gv_get (own := RX1) (D := (dC, dI)) (ci := 1) (C := RX1) (T := TX1) (N := 2) (v := .ref ce) hx hb hts (by decide +kernel) hown hK hP 0 rfl rfl 0 (by decide) (hts (.fieldLink RX1 9 "NumeralCipher$Bytes" "cells" "[I") (by decide +kernel)) rfl rfl dX1_wordAt_17 ?_
    refine lv_iload_n hx hb dX1_wordAt_20 rfl (lv_at hl 0 rfl) ?_
    refine gv_iald hx hb hK hP 1 0 rfl rfl (by omega) (by omega) dX1_wordAt_21 ?_
    refine lv_bipush (v := nI 24) hx hb dX1_wordAt_22 (by decide) ?_
    refine gv_ishl (r := (b (4 * k)) * 16777216) hx hb dX1_wordAt_24 (by omega) rfl ?_
    refine lv_aload_n hx hb dX1_wordAt_25 rfl (lv_at hl 1 rfl) ?_
    refine gv_get (own := RX1) (D := (dC, dI)) (ci := 1) (C := RX1) (T := TX1) (N := 2) (v := .ref ce) hx hb hts (by decide +kernel) hown hK hP 0 rfl rfl 0 (by decide) (hts (.fieldLink RX1 9 "NumeralCipher$Bytes" "cells" "[I") (by decide +kernel)) rfl rfl dX1_wordAt_26 ?_
    refine lv_iload_n hx hb dX1_wordAt_29 rfl (lv_at hl 0 rfl) ?_
    refine lv_iconst (v := nI 1) hx hb dX1_wordAt_30 (by decide) ?_
    refine gv_iadd (r := (4 * k) + 1) hx hb dX1_wordAt_31 rfl ?_
    refine gv_iald hx hb hK hP 1 0 rfl rfl (by omega) (by omega) dX1_wordAt_32 ?_
    refine lv_bipush (v := nI 16) hx hb dX1_wordAt_33 (by decide) ?_
    refine gv_ishl (r := (b ((4 * k) + 1)) * 65536) hx hb dX1_wordAt_35 (by omega) rfl ?_
    refine gv_ior (r := ((b (4 * k)) * 16777216) ||| ((b ((4 * k) + 1)) * 65536)) hx hb dX1_wordAt_36 rfl ?_
    refine lv_aload_n hx hb dX1_wordAt_37 rfl (lv_at hl 1 rfl) ?_
    refine gv_get (own := RX1) (D := (dC, dI)) (ci := 1) (C := RX1) (T := TX1) (N := 2) (v := .ref ce) hx hb hts (by decide +kernel) hown hK hP 0 rfl rfl 0 (by decide) (hts (.fieldLink RX1 9 "NumeralCipher$Bytes" "cells" "[I") (by decide +kernel)) rfl rfl dX1_wordAt_38 ?_
    refine lv_iload_n hx hb dX1_wordAt_41 rfl (lv_at hl 0 rfl) ?_
    refine lv_iconst (v := nI 2) hx hb dX1_wordAt_42 (by decide) ?_
    refine gv_iadd (r := (4 * k) + 2) hx hb dX1_wordAt_43 rfl ?_
    refine gv_iald hx hb hK hP 1 0 rfl rfl (by omega) (by omega) dX1_wordAt_44 ?_
    refine lv_bipush (v := nI 8) hx hb dX1_wordAt_45 (by decide) ?_
    refine gv_ishl (r := (b ((4 * k) + 2)) * 256) hx hb dX1_wordAt_47 (by omega) rfl ?_
    refine gv_ior (r := (((b (4 * k)) * 16777216) ||| ((b ((4 * k) + 1)) * 65536)) ||| ((b ((4 * k) + 2)) * 256)) hx hb dX1_wordAt_48 rfl ?_
    refine lv_aload_n hx hb dX1_wordAt_49 rfl (lv_at hl 1 rfl) ?_
    refine gv_get (own := RX1) (D := (dC, dI)) (ci := 1) (C := RX1) (T := TX1) (N := 2) (v := .ref ce) hx hb hts (by decide +kernel) hown hK hP 0 rfl rfl 0 (by decide) (hts (.fieldLink RX1 9 "NumeralCipher$Bytes" "cells" "[I") (by decide +kernel)) rfl rfl dX1_wordAt_50 ?_
    refine lv_iload_n hx hb dX1_wordAt_53 rfl (lv_at hl 0 rfl) ?_
    refine lv_iconst (v := nI 3) hx hb dX1_wordAt_54 (by decide) ?_
    refine gv_iadd (r := (4 * k) + 3) hx hb dX1_wordAt_55 rfl ?_
    refine gv_iald hx hb hK hP 1 0 rfl rfl (by omega) (by omega) dX1_wordAt_56 ?_
    refine gv_ior (r := ((((b (4 * k)) * 16777216) ||| ((b ((4 * k) + 1)) * 65536)) ||| ((b ((4 * k) + 2)) * 256)) ||| (b ((4 * k) + 3))) hx hb dX1_wordAt_57 rfl ?_
    refine gv_top (y := (nI (pkf b k))) (congrArg nI (pkw_lay (hb0 _ (by omega)) (hb0 _ (by omega)) (hb0 _ (by omega)) (hb0 _ (by omega)))) ?_
    exact W.iret (v := (nI (pkf b k))) hx hb hr (fun t ht hW => ⟨rfl, ht⟩) (fun q h => by cases h) dX1_wordAt_58
  ·
    exact absurd c_7 (by omega)

set_option maxHeartbeats 4000000 in
set_option maxRecDepth 100000 in
/-- Bytes.takeAll(other) -/
theorem c_X1_takeAll (l : Launch) (dC : Nat → ClassId) (dI : Nat → Nat → Nat) (cI : ClassId) (sz : Nat) (o : Nat) (ce : Nat) (o2 : Nat) (ce2 : Nat) (n : Nat) (n2 : Nat) (b : Nat → Nat) (b2 : Nat → Nat) (hn : n2 ≤ 64) : Met l yX1_takeAll wsX1_takeAll ({ frames := 0, cells := 0, slots := 0, locals := 0 }) (gPc dC dI cI [.ref o, .ref o2] [(o, .inr (1, [.ref ce, .int (nI n)])), (ce, .inl (cI, 64, .inl (gA b))), (o2, .inr (1, [.ref ce2, .int (nI n2)])), (ce2, .inl (cI, 64, .inl (gA b2)))] sz) (va_Qv (fun u : (Nat → Nat) => (∀ q, q < 64 → u q = if q < n2 then b2 q else 0)) (fun u t => gB dC dI cI (va_A [(o, .inr (1, [.ref ce, .int (nI n)])), (ce, .inl (cI, 64, .inl (gA b))), (o2, .inr (1, [.ref ce2, .int (nI n2)])), (ce2, .inl (cI, 64, .inl (gA b2)))] sz) [(o, .inr (1, [.ref ce, .int (nI n2)])), (ce, .inl (cI, 64, .inl (gA u))), (o2, .inr (1, [.ref ce2, .int (nI 0)])), (ce2, .inl (cI, 64, .inl (gA b2)))] t) (va_A [(o, .inr (1, [.ref ce, .int (nI n)])), (ce, .inl (cI, 64, .inl (gA b))), (o2, .inr (1, [.ref ce2, .int (nI n2)])), (ce2, .inl (cI, 64, .inl (gA b2)))] sz)) 0 0 (va_A [(o, .inr (1, [.ref ce, .int (nI n)])), (ce, .inl (cI, 64, .inl (gA b))), (o2, .inr (1, [.ref ce2, .int (nI n2)])), (ce2, .inl (cI, 64, .inl (gA b2)))] sz) := by
  refine Met.ofW (cc := cX1_takeAll) (maxL := 3) (ret := none) (by decide) rfl ?_
  intro p e s m args below meth c s₁ B9 hml hv
  obtain ⟨rfl, hsz, ⟨hP, hK, hD0⟩⟩ := hv
  have hx := B9.exec
  have hb := B9.bytes
  have hr := B9.returns
  have hts := atoms_spec (ws := wsX1_takeAll) B9.pre
  have hown : s.vm.findClass RX1 = some m.cls := findClass_of_methodNamed B9.named
  have hlocks := B9.notSynchronized
  subst hsz
  have hD := hD0.self (sz := s.heap.size)
  generalize hAe : va_A [(o, .inr (1, [.ref ce, .int (nI n)])), (ce, .inl (cI, 64, .inl (gA b))), (o2, .inr (1, [.ref ce2, .int (nI n2)])), (ce2, .inl (cI, 64, .inl (gA b2)))] s.heap.size = A at hD ⊢
  have hA : ∀ q : Nat, s.heap.size ≤ q → A q := fun q h => by rw [← hAe]; exact Or.inr h
  have hS : va_S A s.heap s.heap [] := va_S.rf
  have hl := lv_entry ([.ref o, .ref o2]) (n := 3) (Nat.le_of_ble_eq_true rfl)
  rw [lg_entry_eq]
  generalize (lg_sl ([.ref o, .ref o2]) ++ List.replicate (3 - (lg_sl ([.ref o, .ref o2])).length) Slot.unset).toArray = ls at hl ⊢
  have hl : lv_has ls 3 [(0, .ref o), (1, .ref o2)] := hl
  refine lv_iconst (v := nI 0) hx hb dX1_takeAll_0 (by decide) ?_
  refine lv_istore_n (lv' := [(2, .int (nI 0)), (0, .ref o), (1, .ref o2)]) hx hb dX1_takeAll_1 rfl hl (by decide) rfl (fun ls hl => ?_)
  refine gw_lab (G := fun R args Q => ∀ (n9_2 : Nat) (i : Nat) (f : Nat → Nat), n9_2 = 64 - i → (i ≤ 64) → (∀ q, q < 64 → f q = if q < i then (if q < n2 then b2 q else 0) else b q) → ∀ (H : Heap) (locs : List Loc), va_P (dC, dI) vwCl [(o, .inr (1, [.ref ce, .int (nI n)])), (ce, .inl (cI, 64, .inl (gA f))), (o2, .inr (1, [.ref ce2, .int (nI n2)])), (ce2, .inl (cI, 64, .inl (gA b2)))] H → va_D A [(o, .inr (1, [.ref ce, .int (nI n)])), (ce, .inl (cI, 64, .inl (gA f))), (o2, .inr (1, [.ref ce2, .int (nI n2)])), (ce2, .inl (cI, 64, .inl (gA b2)))] → va_S A s.heap H locs → ∀ (ls : Array Slot), lv_has ls 3 [(2, .int (nI i)), (0, .ref o), (1, .ref o2)] → W p l e R s m args below meth c H locs 0 0 Q (F0 m 2 ls [])) ?_ (fun L2 => ?_)
  ·
    intro n9_2
    induction n9_2 using Nat.strongRecOn with
    | ind n9_2 ih9_2 =>
      intro i f hmu9_2 hi hf H locs hP hD hS ls hl
      refine lv_iload_n hx hb dX1_takeAll_2 rfl (lv_at hl 0 rfl) ?_
      refine lv_bipush (v := nI 64) hx hb dX1_takeAll_3 (by decide) ?_
      refine gv_icmp_ge (tgt := 38) hx hb dX1_takeAll_5 (by decide) (by omega) (by omega) (fun c_5 => ?_) (fun c_5 => ?_)
      ·
        have e9 : i = 64 := by omega
        rw [e9] at hf
        have hf := fl_e hf
        refine lv_aload_n hx hb dX1_takeAll_38 rfl (lv_at hl 1 rfl) ?_
        refine lv_aload_n hx hb dX1_takeAll_39 rfl (lv_at hl 2 rfl) ?_
        refine gv_get (own := RX1) (D := (dC, dI)) (ci := 1) (C := RX1) (T := TX1) (N := 2) (v := .int (nI n2)) hx hb hts (by decide +kernel) hown hK hP 2 rfl rfl 1 (by decide) (hts (.fieldLink RX1 15 "NumeralCipher$Bytes" "size" "I") (by decide +kernel)) rfl rfl dX1_takeAll_40 ?_
        refine gv_put (own := RX1) (D := (dC, dI)) (ci := 1) (C := RX1) (T := TX1) (N := 2) (ws' := [(o, .inr (1, [.ref ce, .int (nI n2)])), (ce, .inl (cI, 64, .inl (gA f))), (o2, .inr (1, [.ref ce2, .int (nI n2)])), (ce2, .inl (cI, 64, .inl (gA b2)))]) hx hb hts (by decide +kernel) tyX1 tyX1_ok nmX1 hown hK hP hD hS 0 rfl rfl 1 (by decide) (hts (.fieldLink RX1 15 "NumeralCipher$Bytes" "size" "I") (by decide +kernel)) rfl rfl (by decide +kernel) (Nat.le_of_ble_eq_true rfl) rfl dX1_takeAll_43 (fun H locs hP hD hS => ?_)
        refine lv_aload_n hx hb dX1_takeAll_46 rfl (lv_at hl 2 rfl) ?_
        refine lv_iconst (v := nI 0) hx hb dX1_takeAll_47 (by decide) ?_
        refine gv_put (own := RX1) (D := (dC, dI)) (ci := 1) (C := RX1) (T := TX1) (N := 2) (ws' := [(o, .inr (1, [.ref ce, .int (nI n2)])), (ce, .inl (cI, 64, .inl (gA f))), (o2, .inr (1, [.ref ce2, .int (nI 0)])), (ce2, .inl (cI, 64, .inl (gA b2)))]) hx hb hts (by decide +kernel) tyX1 tyX1_ok nmX1 hown hK hP hD hS 2 rfl rfl 1 (by decide) (hts (.fieldLink RX1 15 "NumeralCipher$Bytes" "size" "I") (by decide +kernel)) rfl rfl (by decide +kernel) (Nat.le_of_ble_eq_true rfl) rfl dX1_takeAll_48 (fun H locs hP hD hS => ?_)
        exact W.vret hx hb hr (fun t ht hW => ⟨⟨(f), rfl, hf, gB_end ht hW hP hK hD⟩, hS.F ht⟩) hS.2.2 dX1_takeAll_51
      ·
        refine lv_aload_n hx hb dX1_takeAll_8 rfl (lv_at hl 1 rfl) ?_
        refine gv_get (own := RX1) (D := (dC, dI)) (ci := 1) (C := RX1) (T := TX1) (N := 2) (v := .ref ce) hx hb hts (by decide +kernel) hown hK hP 0 rfl rfl 0 (by decide) (hts (.fieldLink RX1 9 "NumeralCipher$Bytes" "cells" "[I") (by decide +kernel)) rfl rfl dX1_takeAll_9 ?_
        refine lv_iload_n hx hb dX1_takeAll_12 rfl (lv_at hl 0 rfl) ?_
        refine lv_iload_n hx hb dX1_takeAll_13 rfl (lv_at hl 0 rfl) ?_
        refine lv_aload_n hx hb dX1_takeAll_14 rfl (lv_at hl 2 rfl) ?_
        refine gv_get (own := RX1) (D := (dC, dI)) (ci := 1) (C := RX1) (T := TX1) (N := 2) (v := .int (nI n2)) hx hb hts (by decide +kernel) hown hK hP 2 rfl rfl 1 (by decide) (hts (.fieldLink RX1 15 "NumeralCipher$Bytes" "size" "I") (by decide +kernel)) rfl rfl dX1_takeAll_15 ?_
        refine gw_lab (G := fun R args Q =>  ∀ (H : Heap) (locs : List Loc), va_P (dC, dI) vwCl [(o, .inr (1, [.ref ce, .int (nI n)])), (ce, .inl (cI, 64, .inl (gA f))), (o2, .inr (1, [.ref ce2, .int (nI n2)])), (ce2, .inl (cI, 64, .inl (gA b2)))] H → va_D A [(o, .inr (1, [.ref ce, .int (nI n)])), (ce, .inl (cI, 64, .inl (gA f))), (o2, .inr (1, [.ref ce2, .int (nI n2)])), (ce2, .inl (cI, 64, .inl (gA b2)))] → va_S A s.heap H locs → ∀ (ls : Array Slot), lv_has ls 3 [(2, .int (nI i)), (0, .ref o), (1, .ref o2)] → W p l e R s m args below meth c H locs 0 0 Q (F0 m 31 ls [.int (nI (if i < n2 then b2 i else 0)), .int (nI i), .ref ce])) ?_ (fun L31 => ?_)
        ·
          intro  H locs hP hD hS ls hl
          refine gv_iast (ws' := [(o, .inr (1, [.ref ce, .int (nI n)])), (ce, .inl (cI, 64, .inl (gA (gU f i (if i < n2 then b2 i else 0))))), (o2, .inr (1, [.ref ce2, .int (nI n2)])), (ce2, .inl (cI, 64, .inl (gA b2)))]) hx hb hK hP hD hS 1 0 rfl rfl rfl (by omega) (by omega) dX1_takeAll_31 (fun H locs hP hD hS => ?_)
          refine lv_iinc (v := nI (i + 1)) (lv' := [(2, .int (nI (i + 1))), (0, .ref o), (1, .ref o2)]) hx hb dX1_takeAll_32 hl (k := 0) rfl (gz_inc1 _) (by decide) rfl (fun ls hl => ?_)
          refine lv_goto (tgt := 2) hx hb dX1_takeAll_35 (by decide) ?_
          exact ih9_2 _ (by omega) (i + 1) (gU f i (if i < n2 then b2 i else 0)) rfl (by omega) (fl_s hf rfl) _ _ hP hD hS _ hl
        refine gv_icmp_ge (tgt := 30) hx hb dX1_takeAll_18 (by decide) (by omega) (by omega) (fun c_18 => ?_) (fun c_18 => ?_)
        ·
          refine lv_iconst (v := nI 0) hx hb dX1_takeAll_30 (by decide) ?_
          refine gv_top (y := nI (if i < n2 then b2 i else 0)) (congrArg nI (if_neg (Nat.not_lt.mpr c_18)).symm) ?_
          exact L31   _ _ hP hD hS _ hl
        ·
          refine lv_aload_n hx hb dX1_takeAll_21 rfl (lv_at hl 2 rfl) ?_
          refine gv_get (own := RX1) (D := (dC, dI)) (ci := 1) (C := RX1) (T := TX1) (N := 2) (v := .ref ce2) hx hb hts (by decide +kernel) hown hK hP 2 rfl rfl 0 (by decide) (hts (.fieldLink RX1 9 "NumeralCipher$Bytes" "cells" "[I") (by decide +kernel)) rfl rfl dX1_takeAll_22 ?_
          refine lv_iload_n hx hb dX1_takeAll_25 rfl (lv_at hl 0 rfl) ?_
          refine gv_iald hx hb hK hP 3 0 rfl rfl (by omega) (by omega) dX1_takeAll_26 ?_
          refine gv_top (y := nI (if i < n2 then b2 i else 0)) (congrArg nI (if_pos c_18).symm) ?_
          refine lv_goto (tgt := 31) hx hb dX1_takeAll_27 (by decide) ?_
          exact L31   _ _ hP hD hS _ hl
  exact L2 _ 0 b rfl (by omega) (fl_0 (fun _ _ => rfl)) _ _ hP hD hS _ hl

set_option maxHeartbeats 4000000 in
set_option maxRecDepth 100000 in
/-- expand(from, turnedRound) -/
theorem c_X0_expand (l : Launch) (dC : Nat → ClassId) (dI : Nat → Nat → Nat) (cI : ClassId) (tS : Nat) (sz : Nat) (o : Nat) (sc : Nat) (mv : Nat) (fb : Nat) (fc : Nat) (w0 : Nat → Nat) (r0 : Nat) (b : Nat → Nat) (n : Nat) (t : Nat) (hn : n = 16 ∨ n = 24 ∨ n = 32) (hbb : ∀ j, j < 64 → b j < 256) (ht : t ≤ 1) : Met l yX0_expand wsX0_expand ({ frames := 2, cells := 0, slots := 0, locals := 41 }) (gPe dC dI cI tS [.ref o, .ref fb, .int (nI t)] [(o, .inr (0, [.ref sc, .ref mv, .int (nI r0)])), (sc, .inl (cI, 60, .inl (gA w0))), (fb, .inr (1, [.ref fc, .int (nI n)])), (fc, .inl (cI, 64, .inl (gA b)))] sz) (va_Qv (fun u : (Nat → Nat) => (∀ k, k < 4 * (n / 4 + 7) → u k = pkf (ksS (keyK t b (n / 4)) (n / 4) (3 * (n / 4) + 28)) k)) (fun u t => gB dC dI cI (va_A [(o, .inr (0, [.ref sc, .ref mv, .int (nI r0)])), (sc, .inl (cI, 60, .inl (gA w0))), (fb, .inr (1, [.ref fc, .int (nI n)])), (fc, .inl (cI, 64, .inl (gA b)))] sz) [(o, .inr (0, [.ref sc, .ref mv, .int (nI (n / 4 + 6))])), (sc, .inl (cI, 60, .inl (gA u))), (fb, .inr (1, [.ref fc, .int (nI n)])), (fc, .inl (cI, 64, .inl (gA b)))] t) (va_A [(o, .inr (0, [.ref sc, .ref mv, .int (nI r0)])), (sc, .inl (cI, 60, .inl (gA w0))), (fb, .inr (1, [.ref fc, .int (nI n)])), (fc, .inl (cI, 64, .inl (gA b)))] sz)) 0 0 (va_A [(o, .inr (0, [.ref sc, .ref mv, .int (nI r0)])), (sc, .inl (cI, 60, .inl (gA w0))), (fb, .inr (1, [.ref fc, .int (nI n)])), (fc, .inl (cI, 64, .inl (gA b)))] sz) := by
  refine Met.ofW (cc := cX0_expand) (maxL := 7) (ret := none) (by decide) rfl ?_
  intro p e s m args below meth c s₁ B9 hml hv
  obtain ⟨rfl, hsz, ⟨hP, hK, hD0⟩, hE⟩ := hv
  have hx := B9.exec
  have hb := B9.bytes
  have hr := B9.returns
  have hts := atoms_spec (ws := wsX0_expand) B9.pre
  have hown : s.vm.findClass RX0 = some m.cls := findClass_of_methodNamed B9.named
  have hlocks := B9.notSynchronized
  subst hsz
  have hD := hD0.self (sz := s.heap.size)
  generalize hAe : va_A [(o, .inr (0, [.ref sc, .ref mv, .int (nI r0)])), (sc, .inl (cI, 60, .inl (gA w0))), (fb, .inr (1, [.ref fc, .int (nI n)])), (fc, .inl (cI, 64, .inl (gA b)))] s.heap.size = A at hD hE ⊢
  have hA : ∀ q : Nat, s.heap.size ≤ q → A q := fun q h => by rw [← hAe]; exact Or.inr h
  have hS : va_S A s.heap s.heap [] := va_S.rf
  have hl := lv_entry ([.ref o, .ref fb, .int (nI t)]) (n := 7) (Nat.le_of_ble_eq_true rfl)
  rw [lg_entry_eq]
  generalize (lg_sl ([.ref o, .ref fb, .int (nI t)]) ++ List.replicate (7 - (lg_sl ([.ref o, .ref fb, .int (nI t)])).length) Slot.unset).toArray = ls at hl ⊢
  have hl : lv_has ls 7 [(0, .ref o), (1, .ref fb), (2, .int (nI t))] := hl
  have hKK := keyK_lt (t := t) (w := n / 4) (b := b) (by omega) hbb
  refine gw_lab (G := fun R args Q =>  ∀ (H : Heap) (locs : List Loc), va_P (dC, dI) vwCl [(o, .inr (0, [.ref sc, .ref mv, .int (nI r0)])), (sc, .inl (cI, 60, .inl (gA w0))), (fb, .inr (1, [.ref fc, .int (nI n)])), (fc, .inl (cI, 64, .inl (gA b)))] H → va_D A [(o, .inr (0, [.ref sc, .ref mv, .int (nI r0)])), (sc, .inl (cI, 60, .inl (gA w0))), (fb, .inr (1, [.ref fc, .int (nI n)])), (fc, .inl (cI, 64, .inl (gA b)))] → va_S A s.heap H locs → ∀ (ls : Array Slot), lv_has ls 7 [(0, .ref o), (1, .ref fb), (2, .int (nI t))] → W p l e R s m args below meth c H locs 0 0 Q (F0 m 29 ls [.int (nI (n / 4))])) ?_ (fun L29 => ?_)
  ·
    intro  H locs hP hD hS ls hl
    refine lv_istore_n (lv' := [(3, .int (nI (n / 4))), (0, .ref o), (1, .ref fb), (2, .int (nI t))]) hx hb dX0_expand_29 rfl hl (by decide) rfl (fun ls hl => ?_)
    refine lv_aload_n hx hb dX0_expand_30 rfl (lv_at hl 1 rfl) ?_
    refine lv_iload_n hx hb dX0_expand_31 rfl (lv_at hl 0 rfl) ?_
    refine lv_bipush (v := nI 6) hx hb dX0_expand_32 (by decide) ?_
    refine gv_iadd (r := (n / 4) + 6) hx hb dX0_expand_34 rfl ?_
    refine gv_put (own := RX0) (D := (dC, dI)) (ci := 0) (C := RX0) (T := TX0) (N := 3) (ws' := [(o, .inr (0, [.ref sc, .ref mv, .int (nI ((n / 4) + 6))])), (sc, .inl (cI, 60, .inl (gA w0))), (fb, .inr (1, [.ref fc, .int (nI n)])), (fc, .inl (cI, 64, .inl (gA b)))]) hx hb hts (by decide +kernel) tyX0 tyX0_ok nmX0 hown hK hP hD hS 0 rfl rfl 2 (by decide) (hts (.fieldLink RX0 24 "NumeralCipher$BlockCipher" "rounds" "I") (by decide +kernel)) rfl rfl (by decide +kernel) (Nat.le_of_ble_eq_true rfl) rfl dX0_expand_35 (fun H locs hP hD hS => ?_)
    refine lv_iconst (v := nI 0) hx hb dX0_expand_38 (by decide) ?_
    refine lv_istore (lv' := [(4, .int (nI 0)), (3, .int (nI (n / 4))), (0, .ref o), (1, .ref fb), (2, .int (nI t))]) hx hb dX0_expand_39 hl (by decide) rfl (fun ls hl => ?_)
    refine gw_lab (G := fun R args Q => ∀ (n9_41 : Nat) (i : Nat) (f : Nat → Nat), n9_41 = n / 4 - i → (i ≤ n / 4) → (∀ q, q < 60 → f q = if q < i then pkf (keyK t b (n / 4)) q else w0 q) → ∀ (H : Heap) (locs : List Loc), va_P (dC, dI) vwCl [(o, .inr (0, [.ref sc, .ref mv, .int (nI (n / 4 + 6))])), (sc, .inl (cI, 60, .inl (gA f))), (fb, .inr (1, [.ref fc, .int (nI n)])), (fc, .inl (cI, 64, .inl (gA b)))] H → va_D A [(o, .inr (0, [.ref sc, .ref mv, .int (nI (n / 4 + 6))])), (sc, .inl (cI, 60, .inl (gA f))), (fb, .inr (1, [.ref fc, .int (nI n)])), (fc, .inl (cI, 64, .inl (gA b)))] → va_S A s.heap H locs → ∀ (ls : Array Slot), lv_has ls 7 [(4, .int (nI i)), (3, .int (nI (n / 4))), (0, .ref o), (1, .ref fb), (2, .int (nI t))] → W p l e R s m args below meth c H locs 0 0 Q (F0 m 41 ls [])) ?_ (fun L41 => ?_)
    ·
      intro n9_41
      induction n9_41 using Nat.strongRecOn with
      | ind n9_41 ih9_41 =>
        intro i f hmu9_41 hi hf H locs hP hD hS ls hl
        refine lv_iload hx hb dX0_expand_41 (lv_at hl 0 rfl) ?_
        refine lv_iload_n hx hb dX0_expand_43 rfl (lv_at hl 1 rfl) ?_
        refine gv_icmp_ge (tgt := 86) hx hb dX0_expand_44 (by decide) (by omega) (by omega) (fun c_44 => ?_) (fun c_44 => ?_)
        ·
          have e9 : i = n / 4 := by omega
          rw [e9] at hf
          refine lv_iconst (v := nI 1) hx hb dX0_expand_86 (by decide) ?_
          refine gv_top (y := nI (rcon ((n / 4 + 0 - 1) / (n / 4)))) (congrArg nI (by rw [Nat.div_eq_of_lt (by omega)]; rfl)) ?_
          refine lv_istore (lv' := [(4, .int (nI (rcon ((n / 4 + 0 - 1) / (n / 4))))), (3, .int (nI (n / 4))), (0, .ref o), (1, .ref fb), (2, .int (nI t))]) hx hb dX0_expand_87 hl (by decide) rfl (fun ls hl => ?_)
          refine lv_iload_n hx hb dX0_expand_89 rfl (lv_at hl 1 rfl) ?_
          refine lv_istore (lv' := [(5, .int (nI (n / 4))), (4, .int (nI (rcon ((n / 4 + 0 - 1) / (n / 4))))), (3, .int (nI (n / 4))), (0, .ref o), (1, .ref fb), (2, .int (nI t))]) hx hb dX0_expand_90 hl (by decide) rfl (fun ls hl => ?_)
          refine gw_lab (G := fun R args Q => ∀ (n9_92 : Nat) (j : Nat) (f : Nat → Nat), n9_92 = 3 * (n / 4) + 28 - j → (j ≤ 3 * (n / 4) + 28) → (∀ q, q < n / 4 + j → f q = pkf (ksS (keyK t b (n / 4)) (n / 4) j) q) → ∀ (H : Heap) (locs : List Loc), va_P (dC, dI) vwCl [(o, .inr (0, [.ref sc, .ref mv, .int (nI (n / 4 + 6))])), (sc, .inl (cI, 60, .inl (gA f))), (fb, .inr (1, [.ref fc, .int (nI n)])), (fc, .inl (cI, 64, .inl (gA b)))] H → va_D A [(o, .inr (0, [.ref sc, .ref mv, .int (nI (n / 4 + 6))])), (sc, .inl (cI, 60, .inl (gA f))), (fb, .inr (1, [.ref fc, .int (nI n)])), (fc, .inl (cI, 64, .inl (gA b)))] → va_S A s.heap H locs → ∀ (ls : Array Slot), lv_has ls 7 [(5, .int (nI (n / 4 + j))), (4, .int (nI (rcon ((n / 4 + j - 1) / (n / 4))))), (3, .int (nI (n / 4))), (0, .ref o), (1, .ref fb), (2, .int (nI t))] → W p l e R s m args below meth c H locs 0 0 Q (F0 m 92 ls [])) ?_ (fun L92 => ?_)
          ·
            intro n9_92
            induction n9_92 using Nat.strongRecOn with
            | ind n9_92 ih9_92 =>
              intro j f hmu9_92 hj hf H locs hP hD hS ls hl
              have hX := ksS_lt (w := n / 4) (by omega) hKK j
              refine lv_iload hx hb dX0_expand_92 (lv_at hl 0 rfl) ?_
              refine lv_iconst (v := nI 4) hx hb dX0_expand_94 (by decide) ?_
              refine lv_aload_n hx hb dX0_expand_95 rfl (lv_at hl 3 rfl) ?_
              refine gv_get (own := RX0) (D := (dC, dI)) (ci := 0) (C := RX0) (T := TX0) (N := 3) (v := .int (nI (n / 4 + 6))) hx hb hts (by decide +kernel) hown hK hP 0 rfl rfl 2 (by decide) (hts (.fieldLink RX0 24 "NumeralCipher$BlockCipher" "rounds" "I") (by decide +kernel)) rfl rfl dX0_expand_96 ?_
              refine lv_iconst (v := nI 1) hx hb dX0_expand_99 (by decide) ?_
              refine gv_iadd (r := (n / 4 + 6) + 1) hx hb dX0_expand_100 rfl ?_
              refine gv_imul (r := 4 * ((n / 4 + 6) + 1)) hx hb dX0_expand_101 rfl ?_
              refine gv_icmp_ge (tgt := 198) hx hb dX0_expand_102 (by decide) (by omega) (by omega) (fun c_102 => ?_) (fun c_102 => ?_)
              ·
                have e9 : j = 3 * (n / 4) + 28 := by omega
                rw [e9] at hf
                exact W.vret hx hb hr (fun t ht hW => ⟨⟨(f), rfl, (fun k hk => hf k (by omega)), gB_end ht hW hP hK hD⟩, hS.F ht⟩) hS.2.2 dX0_expand_198
              ·
                refine lv_aload_n hx hb dX0_expand_105 rfl (lv_at hl 3 rfl) ?_
                refine gv_get (own := RX0) (D := (dC, dI)) (ci := 0) (C := RX0) (T := TX0) (N := 3) (v := .ref sc) hx hb hts (by decide +kernel) hown hK hP 0 rfl rfl 0 (by decide) (hts (.fieldLink RX0 11 "NumeralCipher$BlockCipher" "schedule" "[I") (by decide +kernel)) rfl rfl dX0_expand_106 ?_
                refine lv_iload hx hb dX0_expand_109 (lv_at hl 0 rfl) ?_
                refine lv_iconst (v := nI 1) hx hb dX0_expand_111 (by decide) ?_
                refine gv_isub (r := (n / 4 + j) - 1) hx hb dX0_expand_112 (by omega) ?_
                refine gv_iald hx hb hK hP 1 0 rfl rfl (by omega) (by omega) dX0_expand_113 ?_
                refine gv_top (y := nI (pkf (ksS (keyK t b (n / 4)) (n / 4) j) (n / 4 + j - 1))) (congrArg nI (hf _ (by omega))) ?_
                refine lv_istore (lv' := [(6, .int (nI (pkf (ksS (keyK t b (n / 4)) (n / 4) j) (n / 4 + j - 1)))), (5, .int (nI (n / 4 + j))), (4, .int (nI (rcon ((n / 4 + j - 1) / (n / 4))))), (3, .int (nI (n / 4))), (0, .ref o), (1, .ref fb), (2, .int (nI t))]) hx hb dX0_expand_114 hl (by decide) rfl (fun ls hl => ?_)
                refine lv_iload hx hb dX0_expand_116 (lv_at hl 1 rfl) ?_
                refine lv_iload_n hx hb dX0_expand_118 rfl (lv_at hl 3 rfl) ?_
                refine gv_irem (r := (n / 4 + j) % (n / 4)) hx hb dX0_expand_119 (by omega) (by omega) (by omega) rfl ?_
                refine gw_lab (G := fun R args Q =>  ∀ (H : Heap) (locs : List Loc), va_P (dC, dI) vwCl [(o, .inr (0, [.ref sc, .ref mv, .int (nI (n / 4 + 6))])), (sc, .inl (cI, 60, .inl (gA f))), (fb, .inr (1, [.ref fc, .int (nI n)])), (fc, .inl (cI, 64, .inl (gA b)))] H → va_D A [(o, .inr (0, [.ref sc, .ref mv, .int (nI (n / 4 + 6))])), (sc, .inl (cI, 60, .inl (gA f))), (fb, .inr (1, [.ref fc, .int (nI n)])), (fc, .inl (cI, 64, .inl (gA b)))] → va_S A s.heap H locs → ∀ (ls : Array Slot), lv_has ls 7 [(6, .int (nI (pk (tF (ksS (keyK t b (n / 4)) (n / 4) j) (n / 4) (n / 4 + j) 0) (tF (ksS (keyK t b (n / 4)) (n / 4) j) (n / 4) (n / 4 + j) 1) (tF (ksS (keyK t b (n / 4)) (n / 4) j) (n / 4) (n / 4 + j) 2) (tF (ksS (keyK t b (n / 4)) (n / 4) j) (n / 4) (n / 4 + j) 3)))), (5, .int (nI (n / 4 + j))), (4, .int (nI (rcon ((n / 4 + (j + 1) - 1) / (n / 4))))), (3, .int (nI (n / 4))), (0, .ref o), (1, .ref fb), (2, .int (nI t))] → W p l e R s m args below meth c H locs 0 0 Q (F0 m 173 ls [])) ?_ (fun L173 => ?_)
                ·
                  intro  H locs hP hD hS ls hl
                  refine lv_aload_n hx hb dX0_expand_173 rfl (lv_at hl 4 rfl) ?_
                  refine gv_get (own := RX0) (D := (dC, dI)) (ci := 0) (C := RX0) (T := TX0) (N := 3) (v := .ref sc) hx hb hts (by decide +kernel) hown hK hP 0 rfl rfl 0 (by decide) (hts (.fieldLink RX0 11 "NumeralCipher$BlockCipher" "schedule" "[I") (by decide +kernel)) rfl rfl dX0_expand_174 ?_
                  refine lv_iload hx hb dX0_expand_177 (lv_at hl 1 rfl) ?_
                  refine lv_aload_n hx hb dX0_expand_179 rfl (lv_at hl 4 rfl) ?_
                  refine gv_get (own := RX0) (D := (dC, dI)) (ci := 0) (C := RX0) (T := TX0) (N := 3) (v := .ref sc) hx hb hts (by decide +kernel) hown hK hP 0 rfl rfl 0 (by decide) (hts (.fieldLink RX0 11 "NumeralCipher$BlockCipher" "schedule" "[I") (by decide +kernel)) rfl rfl dX0_expand_180 ?_
                  refine lv_iload hx hb dX0_expand_183 (lv_at hl 1 rfl) ?_
                  refine lv_iload_n hx hb dX0_expand_185 rfl (lv_at hl 3 rfl) ?_
                  refine gv_isub (r := j) hx hb dX0_expand_186 (by omega) ?_
                  refine gv_iald hx hb hK hP 1 0 rfl rfl (by omega) (by omega) dX0_expand_187 ?_
                  refine gv_top (y := nI (pkf (ksS (keyK t b (n / 4)) (n / 4) j) j)) (congrArg nI (hf j (by omega))) ?_
                  refine lv_iload hx hb dX0_expand_188 (lv_at hl 0 rfl) ?_
                  refine gv_ixor (r := (pkf (ksS (keyK t b (n / 4)) (n / 4) j) j) ^^^ (pk (tF (ksS (keyK t b (n / 4)) (n / 4) j) (n / 4) (n / 4 + j) 0) (tF (ksS (keyK t b (n / 4)) (n / 4) j) (n / 4) (n / 4 + j) 1) (tF (ksS (keyK t b (n / 4)) (n / 4) j) (n / 4) (n / 4 + j) 2) (tF (ksS (keyK t b (n / 4)) (n / 4) j) (n / 4) (n / 4 + j) 3))) hx hb dX0_expand_190 rfl ?_
                  refine gv_top (y := nI (pkf (ksS (keyK t b (n / 4)) (n / 4) (j + 1)) (n / 4 + j))) (congrArg nI (pkf_hi (by omega) hKK).symm) ?_
                  refine gv_iast (ws' := [(o, .inr (0, [.ref sc, .ref mv, .int (nI (n / 4 + 6))])), (sc, .inl (cI, 60, .inl (gA (gU f (n / 4 + j) (pkf (ksS (keyK t b (n / 4)) (n / 4) (j + 1)) (n / 4 + j)))))), (fb, .inr (1, [.ref fc, .int (nI n)])), (fc, .inl (cI, 64, .inl (gA b)))]) hx hb hK hP hD hS 1 0 rfl rfl rfl (by omega) (by omega) dX0_expand_191 (fun H locs hP hD hS => ?_)
                  refine lv_iinc (v := nI (n / 4 + j + 1)) (lv' := [(5, .int (nI (n / 4 + j + 1))), (6, .int (nI (pk (tF (ksS (keyK t b (n / 4)) (n / 4) j) (n / 4) (n / 4 + j) 0) (tF (ksS (keyK t b (n / 4)) (n / 4) j) (n / 4) (n / 4 + j) 1) (tF (ksS (keyK t b (n / 4)) (n / 4) j) (n / 4) (n / 4 + j) 2) (tF (ksS (keyK t b (n / 4)) (n / 4) j) (n / 4) (n / 4 + j) 3)))), (4, .int (nI (rcon ((n / 4 + (j + 1) - 1) / (n / 4))))), (3, .int (nI (n / 4))), (0, .ref o), (1, .ref fb), (2, .int (nI t))]) hx hb dX0_expand_192 hl (k := 1) rfl (gz_inc1 _) (by decide) rfl (fun ls hl => ?_)
                  refine lv_goto (tgt := 92) hx hb dX0_expand_195 (by decide) ?_
                  exact ih9_92 _ (by omega) (j + 1) (gU f (n / 4 + j) (pkf (ksS (keyK t b (n / 4)) (n / 4) (j + 1)) (n / 4 + j))) rfl (by omega) (ks_step hf rfl) _ _ hP hD hS _ (lv_sub hl [0, 2, 3, 4, 5, 6] rfl)
                refine gv_if_ne (tgt := 151) hx hb dX0_expand_120 (by decide) (Nat.lt_trans (Nat.mod_lt _ (by omega)) (by omega)) (fun c_120 => ?_) (fun c_120 => ?_)
                ·
                  have e4 := rcon_same (k := n / 4 + j) (w := n / 4) (by omega) (by omega) c_120
                  rw [e4] at hl
                  refine lv_iload_n hx hb dX0_expand_151 rfl (lv_at hl 3 rfl) ?_
                  refine lv_bipush (v := nI 8) hx hb dX0_expand_152 (by decide) ?_
                  refine gv_icmp_ne (tgt := 173) hx hb dX0_expand_154 (by decide) (by omega) (by omega) (fun c_154 => ?_) (fun c_154 => ?_)
                  ·
                    have e6 := tF_c (P := ksS (keyK t b (n / 4)) (n / 4) j) (w := n / 4) (k := n / 4 + j) c_120 (by omega)
                    rw [e6] at hl
                    exact L173   _ _ hP hD hS _ hl
                  ·
                    refine lv_iload hx hb dX0_expand_157 (lv_at hl 1 rfl) ?_
                    refine lv_bipush (v := nI 8) hx hb dX0_expand_159 (by decide) ?_
                    refine gv_irem (r := (n / 4 + j) % 8) hx hb dX0_expand_161 (by omega) (by omega) (by omega) rfl ?_
                    refine lv_iconst (v := nI 4) hx hb dX0_expand_162 (by decide) ?_
                    refine gv_icmp_ne (tgt := 173) hx hb dX0_expand_163 (by decide) (by omega) (by omega) (fun c_163 => ?_) (fun c_163 => ?_)
                    ·
                      have e6 := tF_c (P := ksS (keyK t b (n / 4)) (n / 4) j) (w := n / 4) (k := n / 4 + j) c_120 (by omega)
                      rw [e6] at hl
                      exact L173   _ _ hP hD hS _ hl
                    ·
                      refine lv_iload hx hb dX0_expand_166 (lv_at hl 0 rfl) ?_
                      refine gv_callR (W.runS (As := [.int (nI (pkf (ksS (keyK t b (n / 4)) (n / 4) j) (n / 4 + j - 1)))]) (rest := []) ⟨hx, hb, hml, hown, hts⟩ (c_X0_substituted l tS (ksS (keyK t b (n / 4)) (n / 4) j (4 * (n / 4 + j - 1))) (ksS (keyK t b (n / 4)) (n / 4) j (4 * (n / 4 + j - 1) + 1)) (ksS (keyK t b (n / 4)) (n / 4) j (4 * (n / 4 + j - 1) + 2)) (ksS (keyK t b (n / 4)) (n / 4) j (4 * (n / 4 + j - 1) + 3)) (hX _ (by omega)) (hX _ (by omega)) (hX _ (by omega)) (hX _ (by omega))) (va_cwS 1 hts gX0_expand_X0_substituted rfl rfl rfl (by decide +kernel) ⟨Nat.le_of_ble_eq_true rfl, Nat.le_of_ble_eq_true rfl⟩) ⟨gEp_blind, gEp_pre (hE.at hS) (fun _ h => h.elim)⟩ rfl rfl hl.1 rfl (lv_room (Nat.le_of_ble_eq_true rfl)) dX0_expand_168 ⟨Nat.zero_le _, Nat.zero_le _⟩) ?_
                      refine gv_top (y := nI (pk (tF (ksS (keyK t b (n / 4)) (n / 4) j) (n / 4) (n / 4 + j) 0) (tF (ksS (keyK t b (n / 4)) (n / 4) j) (n / 4) (n / 4 + j) 1) (tF (ksS (keyK t b (n / 4)) (n / 4) j) (n / 4) (n / 4 + j) 2) (tF (ksS (keyK t b (n / 4)) (n / 4) j) (n / 4) (n / 4 + j) 3))) (congrArg nI (tF_b c_120 c_154 c_163)) ?_
                      refine lv_istore (lv' := [(6, .int (nI (pk (tF (ksS (keyK t b (n / 4)) (n / 4) j) (n / 4) (n / 4 + j) 0) (tF (ksS (keyK t b (n / 4)) (n / 4) j) (n / 4) (n / 4 + j) 1) (tF (ksS (keyK t b (n / 4)) (n / 4) j) (n / 4) (n / 4 + j) 2) (tF (ksS (keyK t b (n / 4)) (n / 4) j) (n / 4) (n / 4 + j) 3)))), (5, .int (nI (n / 4 + j))), (4, .int (nI (rcon ((n / 4 + (j + 1) - 1) / (n / 4))))), (3, .int (nI (n / 4))), (0, .ref o), (1, .ref fb), (2, .int (nI t))]) hx hb dX0_expand_171 hl (by decide) rfl (fun ls hl => ?_)
                      exact L173   _ _ hP hD hS _ hl
                ·
                  refine lv_iload hx hb dX0_expand_123 (lv_at hl 0 rfl) ?_
                  refine lv_bipush (v := nI 8) hx hb dX0_expand_125 (by decide) ?_
                  refine gv_callR (W.runS (As := [.int (nI (pkf (ksS (keyK t b (n / 4)) (n / 4) j) (n / 4 + j - 1))), .int (nI 8)]) (rest := []) ⟨hx, hb, hml, hown, hts⟩ (c_X0_rotated l (pkf (ksS (keyK t b (n / 4)) (n / 4) j) (n / 4 + j - 1)) 8 (pkf_lt (n := 4 * (n / 4 + j)) hX (by omega)) (by decide) (by decide)) (va_cwS 2 hts gX0_expand_X0_rotated rfl rfl rfl (by decide +kernel) ⟨Nat.le_of_ble_eq_true rfl, Nat.le_of_ble_eq_true rfl⟩) ⟨fun a U g mk q => q, fun U hU hW => ⟨rfl, trivial⟩⟩ rfl rfl hl.1 rfl (lv_room (Nat.le_of_ble_eq_true rfl)) dX0_expand_127 ⟨Nat.zero_le _, Nat.zero_le _⟩) ?_
                  refine gv_top (y := nI (pk (ksS (keyK t b (n / 4)) (n / 4) j (4 * (n / 4 + j - 1) + 1)) (ksS (keyK t b (n / 4)) (n / 4) j (4 * (n / 4 + j - 1) + 2)) (ksS (keyK t b (n / 4)) (n / 4) j (4 * (n / 4 + j - 1) + 3)) (ksS (keyK t b (n / 4)) (n / 4) j (4 * (n / 4 + j - 1))))) (rot8 (hX _ (by omega)) (hX _ (by omega)) (hX _ (by omega)) (hX _ (by omega))) ?_
                  refine gv_callR (W.runS (As := [.int (nI (pk (ksS (keyK t b (n / 4)) (n / 4) j (4 * (n / 4 + j - 1) + 1)) (ksS (keyK t b (n / 4)) (n / 4) j (4 * (n / 4 + j - 1) + 2)) (ksS (keyK t b (n / 4)) (n / 4) j (4 * (n / 4 + j - 1) + 3)) (ksS (keyK t b (n / 4)) (n / 4) j (4 * (n / 4 + j - 1)))))]) (rest := []) ⟨hx, hb, hml, hown, hts⟩ (c_X0_substituted l tS (ksS (keyK t b (n / 4)) (n / 4) j (4 * (n / 4 + j - 1) + 1)) (ksS (keyK t b (n / 4)) (n / 4) j (4 * (n / 4 + j - 1) + 2)) (ksS (keyK t b (n / 4)) (n / 4) j (4 * (n / 4 + j - 1) + 3)) (ksS (keyK t b (n / 4)) (n / 4) j (4 * (n / 4 + j - 1))) (hX _ (by omega)) (hX _ (by omega)) (hX _ (by omega)) (hX _ (by omega))) (va_cwS 1 hts gX0_expand_X0_substituted rfl rfl rfl (by decide +kernel) ⟨Nat.le_of_ble_eq_true rfl, Nat.le_of_ble_eq_true rfl⟩) ⟨gEp_blind, gEp_pre (hE.at hS) (fun _ h => h.elim)⟩ rfl rfl hl.1 rfl (lv_room (Nat.le_of_ble_eq_true rfl)) dX0_expand_130 ⟨Nat.zero_le _, Nat.zero_le _⟩) ?_
                  refine lv_iload hx hb dX0_expand_133 (lv_at hl 2 rfl) ?_
                  refine lv_bipush (v := nI 24) hx hb dX0_expand_135 (by decide) ?_
                  refine gv_ishl (r := (rcon ((n / 4 + j - 1) / (n / 4))) * 16777216) hx hb dX0_expand_137 (by omega) rfl ?_
                  refine gv_ixor (r := (pk (sB (ksS (keyK t b (n / 4)) (n / 4) j (4 * (n / 4 + j - 1) + 1))) (sB (ksS (keyK t b (n / 4)) (n / 4) j (4 * (n / 4 + j - 1) + 2))) (sB (ksS (keyK t b (n / 4)) (n / 4) j (4 * (n / 4 + j - 1) + 3))) (sB (ksS (keyK t b (n / 4)) (n / 4) j (4 * (n / 4 + j - 1))))) ^^^ ((rcon ((n / 4 + j - 1) / (n / 4))) * 16777216)) hx hb dX0_expand_138 rfl ?_
                  refine gv_top (y := nI (pk (tF (ksS (keyK t b (n / 4)) (n / 4) j) (n / 4) (n / 4 + j) 0) (tF (ksS (keyK t b (n / 4)) (n / 4) j) (n / 4) (n / 4 + j) 1) (tF (ksS (keyK t b (n / 4)) (n / 4) j) (n / 4) (n / 4 + j) 2) (tF (ksS (keyK t b (n / 4)) (n / 4) j) (n / 4) (n / 4 + j) 3))) (congrArg nI (tF_a c_120 hX (by omega))) ?_
                  refine lv_istore (lv' := [(6, .int (nI (pk (tF (ksS (keyK t b (n / 4)) (n / 4) j) (n / 4) (n / 4 + j) 0) (tF (ksS (keyK t b (n / 4)) (n / 4) j) (n / 4) (n / 4 + j) 1) (tF (ksS (keyK t b (n / 4)) (n / 4) j) (n / 4) (n / 4 + j) 2) (tF (ksS (keyK t b (n / 4)) (n / 4) j) (n / 4) (n / 4 + j) 3)))), (5, .int (nI (n / 4 + j))), (4, .int (nI (rcon ((n / 4 + j - 1) / (n / 4))))), (3, .int (nI (n / 4))), (0, .ref o), (1, .ref fb), (2, .int (nI t))]) hx hb dX0_expand_139 hl (by decide) rfl (fun ls hl => ?_)
                  refine lv_iload hx hb dX0_expand_141 (lv_at hl 2 rfl) ?_
                  refine gv_callR (W.runS (As := [.int (nI (rcon ((n / 4 + j - 1) / (n / 4))))]) (rest := []) ⟨hx, hb, hml, hown, hts⟩ (c_X0_doubled l (rcon ((n / 4 + j - 1) / (n / 4))) (Nat.lt_trans (rcon_lt _) (by decide))) (va_cwS 1 hts gX0_expand_X0_doubled rfl rfl rfl (by decide +kernel) ⟨Nat.le_of_ble_eq_true rfl, Nat.le_of_ble_eq_true rfl⟩) ⟨fun a U g mk q => q, fun U hU hW => ⟨rfl, trivial⟩⟩ rfl rfl hl.1 rfl (lv_room (Nat.le_of_ble_eq_true rfl)) dX0_expand_143 ⟨Nat.zero_le _, Nat.zero_le _⟩) ?_
                  refine gv_top (y := nI (rcon ((n / 4 + (j + 1) - 1) / (n / 4)))) (congrArg nI (rcon_up (k := n / 4 + j) (w := n / 4) (by omega) (by omega) c_120)) ?_
                  refine lv_istore (lv' := [(4, .int (nI (rcon ((n / 4 + (j + 1) - 1) / (n / 4))))), (6, .int (nI (pk (tF (ksS (keyK t b (n / 4)) (n / 4) j) (n / 4) (n / 4 + j) 0) (tF (ksS (keyK t b (n / 4)) (n / 4) j) (n / 4) (n / 4 + j) 1) (tF (ksS (keyK t b (n / 4)) (n / 4) j) (n / 4) (n / 4 + j) 2) (tF (ksS (keyK t b (n / 4)) (n / 4) j) (n / 4) (n / 4 + j) 3)))), (5, .int (nI (n / 4 + j))), (3, .int (nI (n / 4))), (0, .ref o), (1, .ref fb), (2, .int (nI t))]) hx hb dX0_expand_146 hl (by decide) rfl (fun ls hl => ?_)
                  refine lv_goto (tgt := 173) hx hb dX0_expand_148 (by decide) ?_
                  exact L173   _ _ hP hD hS _ (lv_sub hl [1, 2, 0, 3, 4, 5, 6] rfl)
          exact L92 _ 0 f rfl (by omega) (fun q hq => fl_lo hf (by omega) (by omega)) _ _ hP hD hS _ hl
        ·
          refine lv_aload_n hx hb dX0_expand_47 rfl (lv_at hl 2 rfl) ?_
          refine gv_get (own := RX0) (D := (dC, dI)) (ci := 0) (C := RX0) (T := TX0) (N := 3) (v := .ref sc) hx hb hts (by decide +kernel) hown hK hP 0 rfl rfl 0 (by decide) (hts (.fieldLink RX0 11 "NumeralCipher$BlockCipher" "schedule" "[I") (by decide +kernel)) rfl rfl dX0_expand_48 ?_
          refine lv_iload hx hb dX0_expand_51 (lv_at hl 0 rfl) ?_
          refine gw_lab (G := fun R args Q =>  ∀ (H : Heap) (locs : List Loc), va_P (dC, dI) vwCl [(o, .inr (0, [.ref sc, .ref mv, .int (nI (n / 4 + 6))])), (sc, .inl (cI, 60, .inl (gA f))), (fb, .inr (1, [.ref fc, .int (nI n)])), (fc, .inl (cI, 64, .inl (gA b)))] H → va_D A [(o, .inr (0, [.ref sc, .ref mv, .int (nI (n / 4 + 6))])), (sc, .inl (cI, 60, .inl (gA f))), (fb, .inr (1, [.ref fc, .int (nI n)])), (fc, .inl (cI, 64, .inl (gA b)))] → va_S A s.heap H locs → ∀ (ls : Array Slot), lv_has ls 7 [(4, .int (nI i)), (3, .int (nI (n / 4))), (0, .ref o), (1, .ref fb), (2, .int (nI t))] → W p l e R s m args below meth c H locs 0 0 Q (F0 m 79 ls [.int (nI (pkf (keyK t b (n / 4)) i)), .int (nI i), .ref sc])) ?_ (fun L79 => ?_)
          ·
            intro  H locs hP hD hS ls hl
            refine gv_iast (ws' := [(o, .inr (0, [.ref sc, .ref mv, .int (nI (n / 4 + 6))])), (sc, .inl (cI, 60, .inl (gA (gU f i (pkf (keyK t b (n / 4)) i))))), (fb, .inr (1, [.ref fc, .int (nI n)])), (fc, .inl (cI, 64, .inl (gA b)))]) hx hb hK hP hD hS 1 0 rfl rfl rfl (by omega) (by omega) dX0_expand_79 (fun H locs hP hD hS => ?_)
            refine lv_iinc (v := nI (i + 1)) (lv' := [(4, .int (nI (i + 1))), (3, .int (nI (n / 4))), (0, .ref o), (1, .ref fb), (2, .int (nI t))]) hx hb dX0_expand_80 hl (k := 0) rfl (gz_inc1 _) (by decide) rfl (fun ls hl => ?_)
            refine lv_goto (tgt := 41) hx hb dX0_expand_83 (by decide) ?_
            exact ih9_41 _ (by omega) (i + 1) (gU f i (pkf (keyK t b (n / 4)) i)) rfl (by omega) (fl_s hf rfl) _ _ hP hD hS _ hl
          refine lv_iload_n hx hb dX0_expand_53 rfl (lv_at hl 4 rfl) ?_
          refine gv_if_eq (tgt := 73) hx hb dX0_expand_54 (by decide) (by omega) (fun c_54 => ?_) (fun c_54 => ?_)
          ·
            refine lv_aload_n hx hb dX0_expand_73 rfl (lv_at hl 3 rfl) ?_
            refine lv_iload hx hb dX0_expand_74 (lv_at hl 0 rfl) ?_
            have hPc := hP.sub (ws' := [(fb, .inr (1, [.ref fc, .int (nI n)])), (fc, .inl (cI, 64, .inl (gA b)))]) [2, 3] rfl
            have hDc := hD.sub (ws' := [(fb, .inr (1, [.ref fc, .int (nI n)])), (fc, .inl (cI, 64, .inl (gA b)))]) [2, 3] (by decide) rfl
            refine gv_callR (W.runV (As := [.int (nI i)]) (rest := [.int (nI i), .ref sc]) ⟨hx, hb, hml, hown, hts⟩ (c_X1_wordAt l dC dI cI H.size fb fc n b i (by omega) hbb) (cwV 1 hts gX0_expand_X1_wordAt rfl rfl rfl (by decide +kernel) ⟨Nat.le_of_ble_eq_true rfl, Nat.le_of_ble_eq_true rfl⟩) ⟨gPc_blind, va_recv hK hPc (ci := 1) (q0 := 0) rfl rfl, gPc_pre hPc hK hDc⟩ rfl rfl hl.1 rfl (lv_room (Nat.le_of_ble_eq_true rfl)) dX0_expand_76 ⟨Nat.zero_le _, Nat.zero_le _⟩) ?_
            clear hPc hDc
            refine gv_top (y := nI (pkf (keyK t b (n / 4)) i)) (congrArg nI (by rw [c_54]; exact pkf_key0 b _ _)) ?_
            exact L79   _ _ hP hD hS _ hl
          ·
            refine lv_aload_n hx hb dX0_expand_57 rfl (lv_at hl 3 rfl) ?_
            refine lv_iload_n hx hb dX0_expand_58 rfl (lv_at hl 1 rfl) ?_
            refine lv_iconst (v := nI 1) hx hb dX0_expand_59 (by decide) ?_
            refine gv_isub (r := (n / 4) - 1) hx hb dX0_expand_60 (by omega) ?_
            refine lv_iload hx hb dX0_expand_61 (lv_at hl 0 rfl) ?_
            refine gv_isub (r := ((n / 4) - 1) - i) hx hb dX0_expand_63 (by omega) ?_
            have hPc := hP.sub (ws' := [(fb, .inr (1, [.ref fc, .int (nI n)])), (fc, .inl (cI, 64, .inl (gA b)))]) [2, 3] rfl
            have hDc := hD.sub (ws' := [(fb, .inr (1, [.ref fc, .int (nI n)])), (fc, .inl (cI, 64, .inl (gA b)))]) [2, 3] (by decide) rfl
            refine gv_callR (W.runV (As := [.int (nI (((n / 4) - 1) - i))]) (rest := [.int (nI i), .ref sc]) ⟨hx, hb, hml, hown, hts⟩ (c_X1_wordAt l dC dI cI H.size fb fc n b (((n / 4) - 1) - i) (by omega) hbb) (cwV 1 hts gX0_expand_X1_wordAt rfl rfl rfl (by decide +kernel) ⟨Nat.le_of_ble_eq_true rfl, Nat.le_of_ble_eq_true rfl⟩) ⟨gPc_blind, va_recv hK hPc (ci := 1) (q0 := 0) rfl rfl, gPc_pre hPc hK hDc⟩ rfl rfl hl.1 rfl (lv_room (Nat.le_of_ble_eq_true rfl)) dX0_expand_64 ⟨Nat.zero_le _, Nat.zero_le _⟩) ?_
            clear hPc hDc
            refine gv_callR (W.runS (As := [.int (nI (pkf b (((n / 4) - 1) - i)))]) (rest := [.int (nI i), .ref sc]) ⟨hx, hb, hml, hown, hts⟩ (c_X0_bytesTurned l (b (4 * (n / 4 - 1 - i))) (b (4 * (n / 4 - 1 - i) + 1)) (b (4 * (n / 4 - 1 - i) + 2)) (b (4 * (n / 4 - 1 - i) + 3)) (hbb _ (by omega)) (hbb _ (by omega)) (hbb _ (by omega)) (hbb _ (by omega))) (va_cwS 1 hts gX0_expand_X0_bytesTurned rfl rfl rfl (by decide +kernel) ⟨Nat.le_of_ble_eq_true rfl, Nat.le_of_ble_eq_true rfl⟩) ⟨fun a U g mk q => q, fun U hU hW => ⟨rfl, trivial⟩⟩ rfl rfl hl.1 rfl (lv_room (Nat.le_of_ble_eq_true rfl)) dX0_expand_67 ⟨Nat.zero_le _, Nat.zero_le _⟩) ?_
            refine gv_top (y := nI (pkf (keyK t b (n / 4)) i)) (congrArg nI (pkf_key1 b c_54 c_44)) ?_
            refine lv_goto (tgt := 79) hx hb dX0_expand_70 (by decide) ?_
            exact L79   _ _ hP hD hS _ hl
    exact L41 _ 0 w0 rfl (by omega) (fl_0 (fun _ _ => rfl)) _ _ hP hD hS _ hl
  refine lv_aload_n hx hb dX0_expand_0 rfl (lv_at hl 1 rfl) ?_
  refine gv_getN (own := RX0) (D := (dC, dI)) (ci := 1) (C := RX1) (T := TX1) (N := 2) (v := .int (nI n)) hx hb hts (by decide +kernel) hown hK hP 2 rfl rfl 1 (by decide) (hE.nest (.fieldLinkNest "NumeralCipher$BlockCipher" 18 "NumeralCipher$Bytes" "size" "I" "NumeralCipher") (by decide +kernel)) rfl rfl dX0_expand_1 ?_
  refine lv_bipush (v := nI 32) hx hb dX0_expand_4 (by decide) ?_
  refine gv_icmp_ne (tgt := 14) hx hb dX0_expand_6 (by decide) (by omega) (by omega) (fun c_6 => ?_) (fun c_6 => ?_)
  ·
    refine lv_aload_n hx hb dX0_expand_14 rfl (lv_at hl 1 rfl) ?_
    refine gv_getN (own := RX0) (D := (dC, dI)) (ci := 1) (C := RX1) (T := TX1) (N := 2) (v := .int (nI n)) hx hb hts (by decide +kernel) hown hK hP 2 rfl rfl 1 (by decide) (hE.nest (.fieldLinkNest "NumeralCipher$BlockCipher" 18 "NumeralCipher$Bytes" "size" "I" "NumeralCipher") (by decide +kernel)) rfl rfl dX0_expand_15 ?_
    refine lv_bipush (v := nI 24) hx hb dX0_expand_18 (by decide) ?_
    refine gv_icmp_ne (tgt := 28) hx hb dX0_expand_20 (by decide) (by omega) (by omega) (fun c_20 => ?_) (fun c_20 => ?_)
    ·
      refine lv_iconst (v := nI 4) hx hb dX0_expand_28 (by decide) ?_
      refine gv_top (y := nI (n / 4)) (congrArg nI (by omega)) ?_
      exact L29   _ _ hP hD hS _ hl
    ·
      refine lv_bipush (v := nI 6) hx hb dX0_expand_23 (by decide) ?_
      refine gv_top (y := nI (n / 4)) (congrArg nI (by omega)) ?_
      refine lv_goto (tgt := 29) hx hb dX0_expand_25 (by decide) ?_
      exact L29   _ _ hP hD hS _ hl
  ·
    refine lv_bipush (v := nI 8) hx hb dX0_expand_9 (by decide) ?_
    refine gv_top (y := nI (n / 4)) (congrArg nI (by omega)) ?_
    refine lv_goto (tgt := 29) hx hb dX0_expand_11 (by decide) ?_
    exact L29   _ _ hP hD hS _ hl
