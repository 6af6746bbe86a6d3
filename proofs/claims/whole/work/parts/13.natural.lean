set_option maxHeartbeats 4000000 in
set_option maxRecDepth 100000 in
/-- Arrays.fill of 17 ints -/
theorem c_J7_fill_53178 (l : Launch) (dC : Nat → ClassId) (dI : Nat → Nat → Nat) (cI : ClassId) (sz : Nat) (ce : Nat) (f : Nat → Nat) (v0 : Nat) : Met l yJ7_fill_53178 wsJ7_fill_53178 ({ frames := 0, cells := 0, slots := 0, locals := 0 }) (gPc dC dI cI [.ref ce, .int (nI v0)] [(ce, .inl (cI, 17, .inl (gA f)))] sz) (va_Qv (fun u : (Nat → Nat) => (∀ q, q < 17 → u q = v0)) (fun u t => gB dC dI cI (va_A [(ce, .inl (cI, 17, .inl (gA f)))] sz) [(ce, .inl (cI, 17, .inl (gA u)))] t) (va_A [(ce, .inl (cI, 17, .inl (gA f)))] sz)) 0 0 (va_A [(ce, .inl (cI, 17, .inl (gA f)))] sz) := by
  refine Met.ofW (cc := cJ7_fill_53178) (maxL := 4) (ret := none) (by decide) rfl ?_
  intro p e s m args below meth c s₁ B9 hml hv
  obtain ⟨rfl, hsz, ⟨hP, hK, hD0⟩⟩ := hv
  have hx := B9.exec
  have hb := B9.bytes
  have hr := B9.returns
  have hts := atoms_spec (ws := wsJ7_fill_53178) B9.pre
  have hown : s.vm.findClass RJ7 = some m.cls := findClass_of_methodNamed B9.named
  have hlocks := B9.notSynchronized
  subst hsz
  have hD := hD0.self (sz := s.heap.size)
  generalize hAe : va_A [(ce, .inl (cI, 17, .inl (gA f)))] s.heap.size = A at hD ⊢
  have hA : ∀ q : Nat, s.heap.size ≤ q → A q := fun q h => by rw [← hAe]; exact Or.inr h
  have hS : va_S A s.heap s.heap [] := va_S.rf
  have hl := lv_entry ([.ref ce, .int (nI v0)]) (n := 4) (Nat.le_of_ble_eq_true rfl)
  rw [lg_entry_eq]
  generalize (lg_sl ([.ref ce, .int (nI v0)]) ++ List.replicate (4 - (lg_sl ([.ref ce, .int (nI v0)])).length) Slot.unset).toArray = ls at hl ⊢
  have hl : lv_has ls 4 [(0, .ref ce), (1, .int (nI v0))] := hl
  refine lv_iconst (v := nI 0) hx hb dJ7_fill_53178_0 (by decide) ?_
  refine lv_istore_n (lv' := [(2, .int (nI 0)), (0, .ref ce), (1, .int (nI v0))]) hx hb dJ7_fill_53178_1 rfl hl (by decide) rfl (fun ls hl => ?_)
  refine lv_aload_n hx hb dJ7_fill_53178_2 rfl (lv_at hl 1 rfl) ?_
  refine va_alen (v := nI 17) hx hb hK hP 0 0 rfl rfl rfl dJ7_fill_53178_3 ?_
  refine lv_istore_n (lv' := [(3, .int (nI 17)), (2, .int (nI 0)), (0, .ref ce), (1, .int (nI v0))]) hx hb dJ7_fill_53178_4 rfl hl (by decide) rfl (fun ls hl => ?_)
  refine gw_lab (G := fun R args Q => ∀ (n9_5 : Nat) (i : Nat) (g : Nat → Nat), n9_5 = 17 - i → (i ≤ 17) → (∀ q, q < 17 → g q = if q < i then v0 else f q) → ∀ (H : Heap) (locs : List Loc), va_P (dC, dI) vwCl [(ce, .inl (cI, 17, .inl (gA g)))] H → va_D A [(ce, .inl (cI, 17, .inl (gA g)))] → va_S A s.heap H locs → ∀ (ls : Array Slot), lv_has ls 4 [(3, .int (nI 17)), (2, .int (nI i)), (0, .ref ce), (1, .int (nI v0))] → W p l e R s m args below meth c H locs 0 0 Q (F0 m 5 ls [])) ?_ (fun L5 => ?_)
  ·
    intro n9_5
    induction n9_5 using Nat.strongRecOn with
    | ind n9_5 ih9_5 =>
      intro i g hmu9_5 hi hf H locs hP hD hS ls hl
      refine lv_iload_n hx hb dJ7_fill_53178_5 rfl (lv_at hl 1 rfl) ?_
      refine lv_iload_n hx hb dJ7_fill_53178_6 rfl (lv_at hl 0 rfl) ?_
      refine gv_icmp_ge (tgt := 20) hx hb dJ7_fill_53178_7 (by decide) (by omega) (by omega) (fun c_7 => ?_) (fun c_7 => ?_)
      ·
        have e9 : i = 17 := by omega
        rw [e9] at hf
        have hf := fl_e (N := fun _ => v0) hf
        exact W.vret hx hb hr (fun t ht hW => ⟨⟨(g), rfl, hf, gB_end ht hW hP hK hD⟩, hS.F ht⟩) hS.2.2 dJ7_fill_53178_20
      ·
        refine lv_aload_n hx hb dJ7_fill_53178_10 rfl (lv_at hl 2 rfl) ?_
        refine lv_iload_n hx hb dJ7_fill_53178_11 rfl (lv_at hl 1 rfl) ?_
        refine lv_iload_n hx hb dJ7_fill_53178_12 rfl (lv_at hl 3 rfl) ?_
        refine gv_iast (ws' := [(ce, .inl (cI, 17, .inl (gA (gU g i v0))))]) hx hb hK hP hD hS 0 0 rfl rfl rfl (by omega) (by omega) dJ7_fill_53178_13 (fun H locs hP hD hS => ?_)
        refine lv_iinc (v := nI (i + 1)) (lv' := [(2, .int (nI (i + 1))), (3, .int (nI 17)), (0, .ref ce), (1, .int (nI v0))]) hx hb dJ7_fill_53178_14 hl (k := 1) rfl (gz_inc1 _) (by decide) rfl (fun ls hl => ?_)
        refine lv_goto (tgt := 5) hx hb dJ7_fill_53178_17 (by decide) ?_
        exact ih9_5 _ (by omega) (i + 1) (gU g i v0) rfl (by omega) (fl_s (N := fun _ => v0) hf rfl) _ _ hP hD hS _ (lv_sub hl [1, 0, 2, 3] rfl)
  exact L5 _ 0 f rfl (by omega) (fl_0 (N := fun _ => v0) (fun _ _ => rfl)) _ _ hP hD hS _ hl

set_option maxHeartbeats 4000000 in
set_option maxRecDepth 100000 in
/-- Natural.clear() -/
theorem c_X3_clear (l : Launch) (dC : Nat → ClassId) (dI : Nat → Nat → Nat) (cI : ClassId) (sz : Nat) (o : Nat) (ce : Nat) (n : Nat) (f : Nat → Nat) : Met l yX3_clear wsX3_clear ({ frames := 1, cells := 0, slots := 0, locals := 23 }) (gPc dC dI cI [.ref o] [(o, .inr (3, [.ref ce, .int (nI n)])), (ce, .inl (cI, 17, .inl (gA f)))] sz) (va_Qv (fun u : (Nat → Nat) => (∀ q, q < 17 → u q = 0)) (fun u t => gB dC dI cI (va_A [(o, .inr (3, [.ref ce, .int (nI n)])), (ce, .inl (cI, 17, .inl (gA f)))] sz) [(o, .inr (3, [.ref ce, .int (nI 0)])), (ce, .inl (cI, 17, .inl (gA u)))] t) (va_A [(o, .inr (3, [.ref ce, .int (nI n)])), (ce, .inl (cI, 17, .inl (gA f)))] sz)) 0 0 (va_A [(o, .inr (3, [.ref ce, .int (nI n)])), (ce, .inl (cI, 17, .inl (gA f)))] sz) := by
  refine Met.ofW (cc := cX3_clear) (maxL := 1) (ret := none) (by decide) rfl ?_
  intro p e s m args below meth c s₁ B9 hml hv
  obtain ⟨rfl, hsz, ⟨hP, hK, hD0⟩⟩ := hv
  have hx := B9.exec
  have hb := B9.bytes
  have hr := B9.returns
  have hts := atoms_spec (ws := wsX3_clear) B9.pre
  have hown : s.vm.findClass RX3 = some m.cls := findClass_of_methodNamed B9.named
  have hlocks := B9.notSynchronized
  subst hsz
  have hD := hD0.self (sz := s.heap.size)
  generalize hAe : va_A [(o, .inr (3, [.ref ce, .int (nI n)])), (ce, .inl (cI, 17, .inl (gA f)))] s.heap.size = A at hD ⊢
  have hA : ∀ q : Nat, s.heap.size ≤ q → A q := fun q h => by rw [← hAe]; exact Or.inr h
  have hS : va_S A s.heap s.heap [] := va_S.rf
  have hl := lv_entry ([.ref o]) (n := 1) (Nat.le_of_ble_eq_true rfl)
  rw [lg_entry_eq]
  generalize (lg_sl ([.ref o]) ++ List.replicate (1 - (lg_sl ([.ref o])).length) Slot.unset).toArray = ls at hl ⊢
  have hl : lv_has ls 1 [(0, .ref o)] := hl
  refine lv_aload_n hx hb dX3_clear_0 rfl (lv_at hl 0 rfl) ?_
  refine gv_get (own := RX3) (D := (dC, dI)) (ci := 3) (C := RX3) (T := TX3) (N := 2) (v := .ref ce) hx hb hts (by decide +kernel) hown hK hP 0 rfl rfl 0 (by decide) (hts (.fieldLink RX3 9 "NumeralCipher$Natural" "cells" "[I") (by decide +kernel)) rfl rfl dX3_clear_1 ?_
  refine lv_iconst (v := nI 0) hx hb dX3_clear_4 (by decide) ?_
  have hPc := hP.sub (ws' := [(ce, .inl (cI, 17, .inl (gA f)))]) [1] rfl
  have hDc := hD.sub (ws' := [(ce, .inl (cI, 17, .inl (gA f)))]) [1] (by decide) rfl
  have hFc := va_free (wc := [(ce, .inl (cI, 17, .inl (gA f)))]) hD hS hA [1] rfl
  refine va_callv (va_runS (As := [.ref ce, .int (nI 0)]) (rest := []) ⟨hx, hb, hml, hown, hts⟩ (c_J7_fill_53178 l dC dI cI s.heap.size ce f 0 ) (va_cwS 2 hts gX3_clear_J7_fill_53178 rfl rfl rfl (by decide +kernel) ⟨Nat.le_of_ble_eq_true rfl, Nat.le_of_ble_eq_true rfl⟩) ⟨gPc_blind, gPc_pre hPc hK hDc⟩ rfl rfl hl.1 rfl (lv_room (Nat.le_of_ble_eq_true rfl)) dX3_clear_5 ⟨Nat.zero_le _, Nat.zero_le _⟩) hS (fun q _ h => hFc q h) hFc (fun u8 t8 H1 locs ht hvm hw hB hz1 hk1 hS => ?_)
  obtain ⟨f9_1, rfl⟩ : ∃ z, z = u8 := ⟨_, rfl⟩
  try dsimp only at hw hB
  obtain ⟨hP, hD⟩ := gB_join (wr := [(o, .inr (3, [.ref ce, .int (nI n)]))]) (w2 := [(o, .inr (3, [.ref ce, .int (nI n)])), (ce, .inl (cI, 17, .inl (gA f9_1)))]) hP hD [1] [0] rfl rfl (by decide) (by decide) hk1 hFc ht hB rfl
  clear hk1 hz1 ht hB hvm hPc hDc hFc
  generalize H1 = H at hP hS ⊢
  have hfc := hw
  refine lv_aload_n hx hb dX3_clear_8 rfl (lv_at hl 0 rfl) ?_
  refine lv_iconst (v := nI 0) hx hb dX3_clear_9 (by decide) ?_
  refine gv_put (own := RX3) (D := (dC, dI)) (ci := 3) (C := RX3) (T := TX3) (N := 2) (ws' := [(o, .inr (3, [.ref ce, .int (nI 0)])), (ce, .inl (cI, 17, .inl (gA f9_1)))]) hx hb hts (by decide +kernel) tyX3 tyX3_ok nmX3 hown hK hP hD hS 0 rfl rfl 1 (by decide) (hts (.fieldLink RX3 19 "NumeralCipher$Natural" "size" "I") (by decide +kernel)) rfl rfl (by decide +kernel) (Nat.le_of_ble_eq_true rfl) rfl dX3_clear_10 (fun H locs hP hD hS => ?_)
  exact W.vret hx hb hr (fun t ht hW => ⟨⟨(f9_1), rfl, hfc, gB_end ht hW hP hK hD⟩, hS.F ht⟩) hS.2.2 dX3_clear_13

set_option maxHeartbeats 4000000 in
set_option maxRecDepth 100000 in
/-- Natural.wordAt(k) -/
theorem c_X3_wordAt (l : Launch) (dC : Nat → ClassId) (dI : Nat → Nat → Nat) (cI : ClassId) (sz : Nat) (o : Nat) (ce : Nat) (n : Nat) (f : Nat → Nat) (k : Nat) (hn : n ≤ 17) (hk : k < 2147483648) : Met l yX3_wordAt wsX3_wordAt ({ frames := 0, cells := 0, slots := 0, locals := 0 }) (gPc dC dI cI [.ref o, .int (nI k)] [(o, .inr (3, [.ref ce, .int (nI n)])), (ce, .inl (cI, 17, .inl (gA f)))] sz) (QcRead (nI (if k < n then f k else 0))) 0 0 (fun _ => False) := by
  refine Met.ofW (cc := cX3_wordAt) (maxL := 2) (ret := (some .int)) (by decide) rfl ?_
  intro p e s m args below meth c s₁ B9 hml hv
  obtain ⟨rfl, hsz, ⟨hP, hK, hD0⟩⟩ := hv
  have hx := B9.exec
  have hb := B9.bytes
  have hr := B9.returns
  have hts := atoms_spec (ws := wsX3_wordAt) B9.pre
  have hown : s.vm.findClass RX3 = some m.cls := findClass_of_methodNamed B9.named
  have hlocks := B9.notSynchronized
  subst hsz
  have hD := hD0.self (sz := s.heap.size)
  generalize hAe : va_A [(o, .inr (3, [.ref ce, .int (nI n)])), (ce, .inl (cI, 17, .inl (gA f)))] s.heap.size = A at hD
  have hA : ∀ q : Nat, s.heap.size ≤ q → A q := fun q h => by rw [← hAe]; exact Or.inr h
  have hS : va_S A s.heap s.heap [] := va_S.rf
  have hl := lv_entry ([.ref o, .int (nI k)]) (n := 2) (Nat.le_of_ble_eq_true rfl)
  rw [lg_entry_eq]
  generalize (lg_sl ([.ref o, .int (nI k)]) ++ List.replicate (2 - (lg_sl ([.ref o, .int (nI k)])).length) Slot.unset).toArray = ls at hl ⊢
  have hl : lv_has ls 2 [(0, .ref o), (1, .int (nI k))] := hl
  refine lv_iload_n hx hb dX3_wordAt_0 rfl (lv_at hl 1 rfl) ?_
  refine gv_if_lt (tgt := 21) hx hb dX3_wordAt_1 (by decide) (by omega) ?_
  refine lv_iload_n hx hb dX3_wordAt_4 rfl (lv_at hl 1 rfl) ?_
  refine lv_aload_n hx hb dX3_wordAt_5 rfl (lv_at hl 0 rfl) ?_
  refine gv_get (own := RX3) (D := (dC, dI)) (ci := 3) (C := RX3) (T := TX3) (N := 2) (v := .int (nI n)) hx hb hts (by decide +kernel) hown hK hP 0 rfl rfl 1 (by decide) (hts (.fieldLink RX3 19 "NumeralCipher$Natural" "size" "I") (by decide +kernel)) rfl rfl dX3_wordAt_6 ?_
  refine gv_icmp_ge (tgt := 21) hx hb dX3_wordAt_9 (by decide) (by omega) (by omega) (fun c_9 => ?_) (fun c_9 => ?_)
  ·
    refine lv_iconst (v := nI 0) hx hb dX3_wordAt_21 (by decide) ?_
    refine gv_top (y := nI (if k < n then f k else 0)) (congrArg nI (if_neg (Nat.not_lt.mpr c_9)).symm) ?_
    exact W.iret (v := (nI (if k < n then f k else 0))) hx hb hr (fun t ht hW => ⟨rfl, ht⟩) (fun q h => by cases h) dX3_wordAt_22
  ·
    refine lv_aload_n hx hb dX3_wordAt_12 rfl (lv_at hl 0 rfl) ?_
    refine gv_get (own := RX3) (D := (dC, dI)) (ci := 3) (C := RX3) (T := TX3) (N := 2) (v := .ref ce) hx hb hts (by decide +kernel) hown hK hP 0 rfl rfl 0 (by decide) (hts (.fieldLink RX3 9 "NumeralCipher$Natural" "cells" "[I") (by decide +kernel)) rfl rfl dX3_wordAt_13 ?_
    refine lv_iload_n hx hb dX3_wordAt_16 rfl (lv_at hl 1 rfl) ?_
    refine gv_iald hx hb hK hP 1 0 rfl rfl (by omega) (by omega) dX3_wordAt_17 ?_
    refine gv_top (y := nI (if k < n then f k else 0)) (congrArg nI (if_pos c_9).symm) ?_
    refine lv_goto (tgt := 22) hx hb dX3_wordAt_18 (by decide) ?_
    exact W.iret (v := (nI (if k < n then f k else 0))) hx hb hr (fun t ht hW => ⟨rfl, ht⟩) (fun q h => by cases h) dX3_wordAt_22

set_option maxHeartbeats 4000000 in
set_option maxRecDepth 100000 in
/-- Natural.putWord(k, word) -/
theorem c_X3_putWord (l : Launch) (dC : Nat → ClassId) (dI : Nat → Nat → Nat) (cI : ClassId) (sz : Nat) (o : Nat) (ce : Nat) (n : Nat) (f : Nat → Nat) (k : Nat) (x : Nat) (hn : n ≤ 17) (hk : k < 17) : Met l yX3_putWord wsX3_putWord ({ frames := 1, cells := 0, slots := 0, locals := 21 }) (gPc dC dI cI [.ref o, .int (nI k), .int (nI x)] [(o, .inr (3, [.ref ce, .int (nI n)])), (ce, .inl (cI, 17, .inl (gA f)))] sz) (va_Qv (fun _u : Unit => True) (fun _u t => gB dC dI cI (va_A [(o, .inr (3, [.ref ce, .int (nI n)])), (ce, .inl (cI, 17, .inl (gA f)))] sz) [(o, .inr (3, [.ref ce, .int (nI (max n (k + 1)))])), (ce, .inl (cI, 17, .inl (gA (gU f k x))))] t) (va_A [(o, .inr (3, [.ref ce, .int (nI n)])), (ce, .inl (cI, 17, .inl (gA f)))] sz)) 0 0 (va_A [(o, .inr (3, [.ref ce, .int (nI n)])), (ce, .inl (cI, 17, .inl (gA f)))] sz) := by
  refine Met.ofW (cc := cX3_putWord) (maxL := 3) (ret := none) (by decide) rfl ?_
  intro p e s m args below meth c s₁ B9 hml hv
  obtain ⟨rfl, hsz, ⟨hP, hK, hD0⟩⟩ := hv
  have hx := B9.exec
  have hb := B9.bytes
  have hr := B9.returns
  have hts := atoms_spec (ws := wsX3_putWord) B9.pre
  have hown : s.vm.findClass RX3 = some m.cls := findClass_of_methodNamed B9.named
  have hlocks := B9.notSynchronized
  subst hsz
  have hD := hD0.self (sz := s.heap.size)
  generalize hAe : va_A [(o, .inr (3, [.ref ce, .int (nI n)])), (ce, .inl (cI, 17, .inl (gA f)))] s.heap.size = A at hD ⊢
  have hA : ∀ q : Nat, s.heap.size ≤ q → A q := fun q h => by rw [← hAe]; exact Or.inr h
  have hS : va_S A s.heap s.heap [] := va_S.rf
  have hl := lv_entry ([.ref o, .int (nI k), .int (nI x)]) (n := 3) (Nat.le_of_ble_eq_true rfl)
  rw [lg_entry_eq]
  generalize (lg_sl ([.ref o, .int (nI k), .int (nI x)]) ++ List.replicate (3 - (lg_sl ([.ref o, .int (nI k), .int (nI x)])).length) Slot.unset).toArray = ls at hl ⊢
  have hl : lv_has ls 3 [(0, .ref o), (1, .int (nI k)), (2, .int (nI x))] := hl
  refine lv_iload_n hx hb dX3_putWord_0 rfl (lv_at hl 1 rfl) ?_
  refine gv_if_lt (tgt := 31) hx hb dX3_putWord_1 (by decide) (by omega) ?_
  refine lv_iload_n hx hb dX3_putWord_4 rfl (lv_at hl 1 rfl) ?_
  refine lv_bipush (v := nI 17) hx hb dX3_putWord_5 (by decide) ?_
  refine gv_icmp_ge (tgt := 31) hx hb dX3_putWord_7 (by decide) (by omega) (by omega) (fun c_7 => ?_) (fun c_7 => ?_)
  ·
    exact absurd c_7 (by omega)
  ·
    refine lv_aload_n hx hb dX3_putWord_10 rfl (lv_at hl 0 rfl) ?_
    refine gv_get (own := RX3) (D := (dC, dI)) (ci := 3) (C := RX3) (T := TX3) (N := 2) (v := .ref ce) hx hb hts (by decide +kernel) hown hK hP 0 rfl rfl 0 (by decide) (hts (.fieldLink RX3 9 "NumeralCipher$Natural" "cells" "[I") (by decide +kernel)) rfl rfl dX3_putWord_11 ?_
    refine lv_iload_n hx hb dX3_putWord_14 rfl (lv_at hl 1 rfl) ?_
    refine lv_iload_n hx hb dX3_putWord_15 rfl (lv_at hl 2 rfl) ?_
    refine gv_iast (ws' := [(o, .inr (3, [.ref ce, .int (nI n)])), (ce, .inl (cI, 17, .inl (gA (gU f k x))))]) hx hb hK hP hD hS 1 0 rfl rfl rfl (by omega) (by omega) dX3_putWord_16 (fun H locs hP hD hS => ?_)
    refine lv_aload_n hx hb dX3_putWord_17 rfl (lv_at hl 0 rfl) ?_
    refine lv_aload_n hx hb dX3_putWord_18 rfl (lv_at hl 0 rfl) ?_
    refine gv_get (own := RX3) (D := (dC, dI)) (ci := 3) (C := RX3) (T := TX3) (N := 2) (v := .int (nI n)) hx hb hts (by decide +kernel) hown hK hP 0 rfl rfl 1 (by decide) (hts (.fieldLink RX3 19 "NumeralCipher$Natural" "size" "I") (by decide +kernel)) rfl rfl dX3_putWord_19 ?_
    refine lv_iload_n hx hb dX3_putWord_22 rfl (lv_at hl 1 rfl) ?_
    refine lv_iconst (v := nI 1) hx hb dX3_putWord_23 (by decide) ?_
    refine gv_iadd (r := k + 1) hx hb dX3_putWord_24 rfl ?_
    refine va_mmax (own := RX3) hx hb (hml.trans hl.1.symm) hown (hts (.methodLink RX3 23 Lib.Math.max.name) (by decide +kernel)) (hts (.static Lib.Math.max.name) (by decide +kernel)) (hts (.initialized "java/lang/Math") (by decide +kernel)) (hts (.code Lib.Math.max.name Lib.Math.max.code 2 (some .int)) (by decide +kernel)) (Nat.le_of_ble_eq_true rfl) (Nat.le_of_ble_eq_true rfl) (Nat.zero_le _) (Nat.zero_le _) dX3_putWord_25 ?_
    refine gv_top (y := nI (max n (k + 1))) (gz_max (by omega) (by omega)) ?_
    refine gv_put (own := RX3) (D := (dC, dI)) (ci := 3) (C := RX3) (T := TX3) (N := 2) (ws' := [(o, .inr (3, [.ref ce, .int (nI (max n (k + 1)))])), (ce, .inl (cI, 17, .inl (gA (gU f k x))))]) hx hb hts (by decide +kernel) tyX3 tyX3_ok nmX3 hown hK hP hD hS 0 rfl rfl 1 (by decide) (hts (.fieldLink RX3 19 "NumeralCipher$Natural" "size" "I") (by decide +kernel)) rfl rfl (by decide +kernel) (Nat.le_of_ble_eq_true rfl) rfl dX3_putWord_28 (fun H locs hP hD hS => ?_)
    exact W.vret hx hb hr (fun t ht hW => ⟨⟨(), rfl, trivial, gB_end ht hW hP hK hD⟩, hS.F ht⟩) hS.2.2 dX3_putWord_31

set_option maxHeartbeats 4000000 in
set_option maxRecDepth 100000 in
/-- Natural.multiplyAndAdd(factor, addend) -/
theorem c_X3_multiplyAndAdd (l : Launch) (dC : Nat → ClassId) (dI : Nat → Nat → Nat) (cI : ClassId) (sz : Nat) (o : Nat) (ce : Nat) (n : Nat) (f : Nat → Nat) (F : Nat) (Ad : Nat) (v : Nat) (hok : NatOk f n v) (hF1 : 1 ≤ F) (hF2 : F ≤ 65536) (hAd : Ad < F) (hv9 : v * F + Ad < 4294967296 ^ 17) : Met l yX3_multiplyAndAdd wsX3_multiplyAndAdd ({ frames := 2, cells := 0, slots := 0, locals := 43 }) (gPc dC dI cI [.ref o, .int (nI F), .int (nI Ad)] [(o, .inr (3, [.ref ce, .int (nI n)])), (ce, .inl (cI, 17, .inl (gA f)))] sz) (va_Qv (fun u : (Nat → Nat) × Nat => (NatOk u.1 u.2 (v * F + Ad))) (fun u t => gB dC dI cI (va_A [(o, .inr (3, [.ref ce, .int (nI n)])), (ce, .inl (cI, 17, .inl (gA f)))] sz) [(o, .inr (3, [.ref ce, .int (nI u.2)])), (ce, .inl (cI, 17, .inl (gA u.1)))] t) (va_A [(o, .inr (3, [.ref ce, .int (nI n)])), (ce, .inl (cI, 17, .inl (gA f)))] sz)) 0 0 (va_A [(o, .inr (3, [.ref ce, .int (nI n)])), (ce, .inl (cI, 17, .inl (gA f)))] sz) := by
  refine Met.ofW (cc := cX3_multiplyAndAdd) (maxL := 8) (ret := none) (by decide) rfl ?_
  intro p e s m args below meth c s₁ B9 hml hv
  obtain ⟨rfl, hsz, ⟨hP, hK, hD0⟩⟩ := hv
  have hx := B9.exec
  have hb := B9.bytes
  have hr := B9.returns
  have hts := atoms_spec (ws := wsX3_multiplyAndAdd) B9.pre
  have hown : s.vm.findClass RX3 = some m.cls := findClass_of_methodNamed B9.named
  have hlocks := B9.notSynchronized
  subst hsz
  have hD := hD0.self (sz := s.heap.size)
  generalize hAe : va_A [(o, .inr (3, [.ref ce, .int (nI n)])), (ce, .inl (cI, 17, .inl (gA f)))] s.heap.size = A at hD ⊢
  have hA : ∀ q : Nat, s.heap.size ≤ q → A q := fun q h => by rw [← hAe]; exact Or.inr h
  have hS : va_S A s.heap s.heap [] := va_S.rf
  have hl := lv_entry ([.ref o, .int (nI F), .int (nI Ad)]) (n := 8) (Nat.le_of_ble_eq_true rfl)
  rw [lg_entry_eq]
  generalize (lg_sl ([.ref o, .int (nI F), .int (nI Ad)]) ++ List.replicate (8 - (lg_sl ([.ref o, .int (nI F), .int (nI Ad)])).length) Slot.unset).toArray = ls at hl ⊢
  have hl : lv_has ls 8 [(0, .ref o), (1, .int (nI F)), (2, .int (nI Ad))] := hl
  have hn17 := hok.1
  refine lv_iload_n hx hb dX3_multiplyAndAdd_0 rfl (lv_at hl 2 rfl) ?_
  refine lv_i2l (v := lN Ad) hx hb dX3_multiplyAndAdd_1 (nI_l (by omega)) ?_
  refine lv_lstore_n (lv' := [(3, .long (lN Ad)), (0, .ref o), (1, .int (nI F)), (2, .int (nI Ad))]) hx hb dX3_multiplyAndAdd_2 rfl hl (by decide) rfl (fun ls hl => ?_)
  refine lv_iconst (v := nI 0) hx hb dX3_multiplyAndAdd_3 (by decide) ?_
  refine lv_istore (lv' := [(5, .int (nI 0)), (3, .long (lN Ad)), (0, .ref o), (1, .int (nI F)), (2, .int (nI Ad))]) hx hb dX3_multiplyAndAdd_4 hl (by decide) rfl (fun ls hl => ?_)
  refine gw_lab (G := fun R args Q => ∀ (n9_6 : Nat) (i : Nat) (g : Nat → Nat) (cr : Nat), n9_6 = n - i → (i ≤ n) → (MulI f g F Ad i cr) → ∀ (H : Heap) (locs : List Loc), va_P (dC, dI) vwCl [(o, .inr (3, [.ref ce, .int (nI n)])), (ce, .inl (cI, 17, .inl (gA g)))] H → va_D A [(o, .inr (3, [.ref ce, .int (nI n)])), (ce, .inl (cI, 17, .inl (gA g)))] → va_S A s.heap H locs → ∀ (ls : Array Slot), lv_has ls 8 [(5, .int (nI i)), (3, .long (lN cr)), (0, .ref o), (1, .int (nI F)), (2, .int (nI Ad))] → W p l e R s m args below meth c H locs 0 0 Q (F0 m 6 ls [])) ?_ (fun L6 => ?_)
  ·
    intro n9_6
    induction n9_6 using Nat.strongRecOn with
    | ind n9_6 ih9_6 =>
      intro i g cr hmu9_6 hi hm H locs hP hD hS ls hl
      refine lv_iload hx hb dX3_multiplyAndAdd_6 (lv_at hl 0 rfl) ?_
      refine lv_aload_n hx hb dX3_multiplyAndAdd_8 rfl (lv_at hl 2 rfl) ?_
      refine gv_get (own := RX3) (D := (dC, dI)) (ci := 3) (C := RX3) (T := TX3) (N := 2) (v := .int (nI n)) hx hb hts (by decide +kernel) hown hK hP 0 rfl rfl 1 (by decide) (hts (.fieldLink RX3 19 "NumeralCipher$Natural" "size" "I") (by decide +kernel)) rfl rfl dX3_multiplyAndAdd_9 ?_
      refine gv_icmp_ge (tgt := 56) hx hb dX3_multiplyAndAdd_12 (by decide) (by omega) (by omega) (fun c_12 => ?_) (fun c_12 => ?_)
      ·
        have e9 : i = n := by omega
        rw [e9] at hm
        have hcr := hm.2.2.2
        refine lv_lload_n hx hb dX3_multiplyAndAdd_56 rfl (lv_at hl 1 rfl) ?_
        refine lv_lconst (v := lN 0) hx hb dX3_multiplyAndAdd_57 (by decide) ?_
        refine gl_cmp_eq (tgt := 72) hx hb dX3_multiplyAndAdd_58 dX3_multiplyAndAdd_59 (by decide) (by omega) (by omega) (fun c_58 => ?_) (fun c_58 => ?_)
        ·
          rw [c_58] at hm
          exact W.vret hx hb hr (fun t ht hW => ⟨⟨(g, n), rfl, (hm.end0 hok hF1), gB_end ht hW hP hK hD⟩, hS.F ht⟩) hS.2.2 dX3_multiplyAndAdd_72
        ·
          have h17 := hm.n17 hok (by omega) hv9
          refine lv_aload_n hx hb dX3_multiplyAndAdd_62 rfl (lv_at hl 2 rfl) ?_
          refine lv_aload_n hx hb dX3_multiplyAndAdd_63 rfl (lv_at hl 2 rfl) ?_
          refine gv_get (own := RX3) (D := (dC, dI)) (ci := 3) (C := RX3) (T := TX3) (N := 2) (v := .int (nI n)) hx hb hts (by decide +kernel) hown hK hP 0 rfl rfl 1 (by decide) (hts (.fieldLink RX3 19 "NumeralCipher$Natural" "size" "I") (by decide +kernel)) rfl rfl dX3_multiplyAndAdd_64 ?_
          refine lv_lload_n hx hb dX3_multiplyAndAdd_67 rfl (lv_at hl 1 rfl) ?_
          refine lv_l2i (v := nI cr) hx hb dX3_multiplyAndAdd_68 (lN_i _) ?_
          have hPc := hP.sub (ws' := [(o, .inr (3, [.ref ce, .int (nI n)])), (ce, .inl (cI, 17, .inl (gA g)))]) [0, 1] rfl
          have hDc := hD.sub (ws' := [(o, .inr (3, [.ref ce, .int (nI n)])), (ce, .inl (cI, 17, .inl (gA g)))]) [0, 1] (by decide) rfl
          have hFc := va_free (wc := [(o, .inr (3, [.ref ce, .int (nI n)])), (ce, .inl (cI, 17, .inl (gA g)))]) hD hS hA [0, 1] rfl
          refine va_callv (va_runV (As := [.int (nI n), .int (nI cr)]) (rest := []) ⟨hx, hb, hml, hown, hts⟩ (c_X3_putWord l dC dI cI H.size o ce n g n cr (by omega) (by omega)) (cwV 2 hts gX3_multiplyAndAdd_X3_putWord rfl rfl rfl (by decide +kernel) ⟨Nat.le_of_ble_eq_true rfl, Nat.le_of_ble_eq_true rfl⟩) ⟨gPc_blind, va_recv hK hPc (ci := 3) (q0 := 0) rfl rfl, gPc_pre hPc hK hDc⟩ rfl rfl hl.1 rfl (lv_room (Nat.le_of_ble_eq_true rfl)) dX3_multiplyAndAdd_69 ⟨Nat.zero_le _, Nat.zero_le _⟩) hS (fun q _ h => hFc q h) hFc (fun u8 t8 H1 locs ht hvm hw hB hz1 hk1 hS => ?_)
          try dsimp only at hw hB
          obtain ⟨hP, hD⟩ := gB_join (wr := []) (w2 := [(o, .inr (3, [.ref ce, .int (nI (max n (n + 1)))])), (ce, .inl (cI, 17, .inl (gA (gU g n cr))))]) hP hD [0, 1] [] rfl rfl (by decide) (by decide) hk1 hFc ht hB rfl
          clear hk1 hz1 ht hB hvm hPc hDc hFc
          generalize H1 = H at hP hS ⊢
          exact W.vret hx hb hr (fun t ht hW => ⟨⟨(gU g n cr, max n (n + 1)), rfl, (by rw [Nat.max_eq_right (Nat.le_succ n)]; exact hm.end1 hok (by omega) hF2 h17), gB_end ht hW hP hK hD⟩, hS.F ht⟩) hS.2.2 dX3_multiplyAndAdd_72
      ·
        have hbd := MulI.bound hm (by omega) hF2
        have hfi : g i < 4294967296 := hm.2.2.1 i (by omega)
        refine lv_aload_n hx hb dX3_multiplyAndAdd_15 rfl (lv_at hl 2 rfl) ?_
        refine gv_get (own := RX3) (D := (dC, dI)) (ci := 3) (C := RX3) (T := TX3) (N := 2) (v := .ref ce) hx hb hts (by decide +kernel) hown hK hP 0 rfl rfl 0 (by decide) (hts (.fieldLink RX3 9 "NumeralCipher$Natural" "cells" "[I") (by decide +kernel)) rfl rfl dX3_multiplyAndAdd_16 ?_
        refine lv_iload hx hb dX3_multiplyAndAdd_19 (lv_at hl 0 rfl) ?_
        refine gv_iald hx hb hK hP 1 0 rfl rfl (by omega) (by omega) dX3_multiplyAndAdd_21 ?_
        refine gv_top (y := nI (f i)) (congrArg nI (hm.2.1 i (Nat.le_refl i))) ?_
        rw [hm.2.1 i (Nat.le_refl i)] at hfi
        refine gv_i2lm (own := RX3) hx hb hown (hts (.constantLong RX3 29 4294967295) (by decide +kernel)) dX3_multiplyAndAdd_22 dX3_multiplyAndAdd_23 dX3_multiplyAndAdd_26 (by omega) ?_
        refine lv_iload_n hx hb dX3_multiplyAndAdd_27 rfl (lv_at hl 3 rfl) ?_
        refine lv_i2l (v := lN F) hx hb dX3_multiplyAndAdd_28 (nI_l (by omega)) ?_
        refine gl_lmul (r := (f i) * F) hx hb dX3_multiplyAndAdd_29 rfl ?_
        refine lv_lload_n hx hb dX3_multiplyAndAdd_30 rfl (lv_at hl 1 rfl) ?_
        refine gl_ladd (r := ((f i) * F) + cr) hx hb dX3_multiplyAndAdd_31 rfl ?_
        refine lv_lstore (lv' := [(6, .long (lN (((f i) * F) + cr))), (5, .int (nI i)), (3, .long (lN cr)), (0, .ref o), (1, .int (nI F)), (2, .int (nI Ad))]) hx hb dX3_multiplyAndAdd_32 hl (by decide) rfl (fun ls hl => ?_)
        refine lv_aload_n hx hb dX3_multiplyAndAdd_34 rfl (lv_at hl 3 rfl) ?_
        refine gv_get (own := RX3) (D := (dC, dI)) (ci := 3) (C := RX3) (T := TX3) (N := 2) (v := .ref ce) hx hb hts (by decide +kernel) hown hK hP 0 rfl rfl 0 (by decide) (hts (.fieldLink RX3 9 "NumeralCipher$Natural" "cells" "[I") (by decide +kernel)) rfl rfl dX3_multiplyAndAdd_35 ?_
        refine lv_iload hx hb dX3_multiplyAndAdd_38 (lv_at hl 1 rfl) ?_
        refine lv_lload hx hb dX3_multiplyAndAdd_40 (lv_at hl 0 rfl) ?_
        refine lv_l2i (v := nI (((f i) * F) + cr)) hx hb dX3_multiplyAndAdd_42 (lN_i _) ?_
        refine gv_top (y := nI ((f i * F + cr) % 4294967296)) ((gz_mod _).symm) ?_
        refine gv_iast (ws' := [(o, .inr (3, [.ref ce, .int (nI n)])), (ce, .inl (cI, 17, .inl (gA (gU g i ((f i * F + cr) % 4294967296)))))]) hx hb hK hP hD hS 1 0 rfl rfl rfl (by omega) (by omega) dX3_multiplyAndAdd_43 (fun H locs hP hD hS => ?_)
        refine lv_lload hx hb dX3_multiplyAndAdd_44 (lv_at hl 0 rfl) ?_
        refine lv_bipush (v := nI 32) hx hb dX3_multiplyAndAdd_46 (by decide) ?_
        refine gl_lushr (r := (((f i) * F) + cr) / 4294967296) hx hb dX3_multiplyAndAdd_48 (by omega) (by omega) rfl ?_
        refine lv_lstore_n (lv' := [(3, .long (lN ((((f i) * F) + cr) / 4294967296))), (6, .long (lN (((f i) * F) + cr))), (5, .int (nI i)), (0, .ref o), (1, .int (nI F)), (2, .int (nI Ad))]) hx hb dX3_multiplyAndAdd_49 rfl hl (by decide) rfl (fun ls hl => ?_)
        refine lv_iinc (v := nI (i + 1)) (lv' := [(5, .int (nI (i + 1))), (3, .long (lN ((((f i) * F) + cr) / 4294967296))), (6, .long (lN (((f i) * F) + cr))), (0, .ref o), (1, .int (nI F)), (2, .int (nI Ad))]) hx hb dX3_multiplyAndAdd_50 hl (k := 2) rfl (gz_inc1 _) (by decide) rfl (fun ls hl => ?_)
        refine lv_goto (tgt := 6) hx hb dX3_multiplyAndAdd_53 (by decide) ?_
        exact ih9_6 _ (by omega) (i + 1) (gU g i ((f i * F + cr) % 4294967296)) ((f i * F + cr) / 4294967296) rfl (by omega) (MulI.step hm (by omega)) _ _ hP hD hS _ (lv_sub hl [0, 1, 3, 4, 5] rfl)
  exact L6 _ 0 f Ad rfl (by omega) (MulI.start hok.2.1 hAd) _ _ hP hD hS _ hl

set_option maxHeartbeats 4000000 in
set_option maxRecDepth 100000 in
/-- Natural.divide(divisor) -/
theorem c_X3_divide (l : Launch) (dC : Nat → ClassId) (dI : Nat → Nat → Nat) (cI : ClassId) (sz : Nat) (o : Nat) (ce : Nat) (n : Nat) (f : Nat → Nat) (dv : Nat) (v : Nat) (hok : NatW f n v) (hd1 : 2 ≤ dv) (hd2 : dv ≤ 65536) : Met l yX3_divide wsX3_divide ({ frames := 0, cells := 0, slots := 0, locals := 0 }) (gPc dC dI cI [.ref o, .int (nI dv)] [(o, .inr (3, [.ref ce, .int (nI n)])), (ce, .inl (cI, 17, .inl (gA f)))] sz) (va_Qi (fun (r : Int32) (u : (Nat → Nat) × Nat) => r = (nI (v % dv)) ∧ (NatOk u.1 u.2 (v / dv))) (fun u t => gB dC dI cI (va_A [(o, .inr (3, [.ref ce, .int (nI n)])), (ce, .inl (cI, 17, .inl (gA f)))] sz) [(o, .inr (3, [.ref ce, .int (nI u.2)])), (ce, .inl (cI, 17, .inl (gA u.1)))] t) (va_A [(o, .inr (3, [.ref ce, .int (nI n)])), (ce, .inl (cI, 17, .inl (gA f)))] sz)) 0 0 (va_A [(o, .inr (3, [.ref ce, .int (nI n)])), (ce, .inl (cI, 17, .inl (gA f)))] sz) := by
  refine Met.ofW (cc := cX3_divide) (maxL := 7) (ret := (some .int)) (by decide) rfl ?_
  intro p e s m args below meth c s₁ B9 hml hv
  obtain ⟨rfl, hsz, ⟨hP, hK, hD0⟩⟩ := hv
  have hx := B9.exec
  have hb := B9.bytes
  have hr := B9.returns
  have hts := atoms_spec (ws := wsX3_divide) B9.pre
  have hown : s.vm.findClass RX3 = some m.cls := findClass_of_methodNamed B9.named
  have hlocks := B9.notSynchronized
  subst hsz
  have hD := hD0.self (sz := s.heap.size)
  generalize hAe : va_A [(o, .inr (3, [.ref ce, .int (nI n)])), (ce, .inl (cI, 17, .inl (gA f)))] s.heap.size = A at hD ⊢
  have hA : ∀ q : Nat, s.heap.size ≤ q → A q := fun q h => by rw [← hAe]; exact Or.inr h
  have hS : va_S A s.heap s.heap [] := va_S.rf
  have hl := lv_entry ([.ref o, .int (nI dv)]) (n := 7) (Nat.le_of_ble_eq_true rfl)
  rw [lg_entry_eq]
  generalize (lg_sl ([.ref o, .int (nI dv)]) ++ List.replicate (7 - (lg_sl ([.ref o, .int (nI dv)])).length) Slot.unset).toArray = ls at hl ⊢
  have hl : lv_has ls 7 [(0, .ref o), (1, .int (nI dv))] := hl
  have hn17 := hok.1
  refine lv_iload_n hx hb dX3_divide_0 rfl (lv_at hl 1 rfl) ?_
  refine lv_iconst (v := nI 2) hx hb dX3_divide_1 (by decide) ?_
  refine gv_icmp_ge (tgt := 7) hx hb dX3_divide_2 (by decide) (by omega) (by omega) (fun c_2 => ?_) (fun c_2 => ?_)
  ·
    refine lv_lconst (v := lN 0) hx hb dX3_divide_7 (by decide) ?_
    refine lv_lstore_n (lv' := [(2, .long (lN 0)), (0, .ref o), (1, .int (nI dv))]) hx hb dX3_divide_8 rfl hl (by decide) rfl (fun ls hl => ?_)
    refine lv_aload_n hx hb dX3_divide_9 rfl (lv_at hl 1 rfl) ?_
    refine gv_get (own := RX3) (D := (dC, dI)) (ci := 3) (C := RX3) (T := TX3) (N := 2) (v := .int (nI n)) hx hb hts (by decide +kernel) hown hK hP 0 rfl rfl 1 (by decide) (hts (.fieldLink RX3 19 "NumeralCipher$Natural" "size" "I") (by decide +kernel)) rfl rfl dX3_divide_10 ?_
    refine lv_iconst (v := nI 1) hx hb dX3_divide_13 (by decide) ?_
    refine lv_isub hx hb dX3_divide_14 ?_
    refine gv_top (y := nI n - 1) rfl ?_
    refine lv_istore (lv' := [(4, .int (nI n - 1)), (2, .long (lN 0)), (0, .ref o), (1, .int (nI dv))]) hx hb dX3_divide_15 hl (by decide) rfl (fun ls hl => ?_)
    refine gw_lab (G := fun R args Q => ∀ (n9_17 : Nat) (j : Nat) (g : Nat → Nat) (r : Nat), n9_17 = j → (j ≤ n) → (DivI f g n dv j r) → ∀ (H : Heap) (locs : List Loc), va_P (dC, dI) vwCl [(o, .inr (3, [.ref ce, .int (nI n)])), (ce, .inl (cI, 17, .inl (gA g)))] H → va_D A [(o, .inr (3, [.ref ce, .int (nI n)])), (ce, .inl (cI, 17, .inl (gA g)))] → va_S A s.heap H locs → ∀ (ls : Array Slot), lv_has ls 7 [(4, .int (nI j - 1)), (2, .long (lN r)), (0, .ref o), (1, .int (nI dv))] → W p l e R s m args below meth c H locs 0 0 Q (F0 m 17 ls [])) ?_ (fun L17 => ?_)
    ·
      intro n9_17
      induction n9_17 using Nat.strongRecOn with
      | ind n9_17 ih9_17 =>
        intro j g r hmu9_17 hj hd H locs hP hD hS ls hl
        rcases j with _ | j
        ·
          refine lv_iload hx hb dX3_divide_17 (lv_at hl 0 rfl) ?_
          refine lv_if_lt (tgt := 66) hx hb dX3_divide_19 (by decide) (fun _ => ?_) (fun c9 => absurd (by decide) c9)
          obtain ⟨hq, hrm⟩ := hd.done hok
          refine gw_lab (G := fun R args Q => ∀ (n9_66 : Nat) (mm : Nat), n9_66 = mm → (mm ≤ n) → (nv g mm = v / dv) → ∀ (H : Heap) (locs : List Loc), va_P (dC, dI) vwCl [(o, .inr (3, [.ref ce, .int (nI mm)])), (ce, .inl (cI, 17, .inl (gA g)))] H → va_D A [(o, .inr (3, [.ref ce, .int (nI mm)])), (ce, .inl (cI, 17, .inl (gA g)))] → va_S A s.heap H locs → ∀ (ls : Array Slot), lv_has ls 7 [(2, .long (lN r)), (0, .ref o), (1, .int (nI dv))] → W p l e R s m args below meth c H locs 0 0 Q (F0 m 66 ls [])) ?_ (fun L66 => ?_)
          ·
            intro n9_66
            induction n9_66 using Nat.strongRecOn with
            | ind n9_66 ih9_66 =>
              intro mm hmu9_66 hm hq H locs hP hD hS ls hl
              refine lv_aload_n hx hb dX3_divide_66 rfl (lv_at hl 1 rfl) ?_
              refine gv_get (own := RX3) (D := (dC, dI)) (ci := 3) (C := RX3) (T := TX3) (N := 2) (v := .int (nI mm)) hx hb hts (by decide +kernel) hown hK hP 0 rfl rfl 1 (by decide) (hts (.fieldLink RX3 19 "NumeralCipher$Natural" "size" "I") (by decide +kernel)) rfl rfl dX3_divide_67 ?_
              refine gv_if_le (tgt := 100) hx hb dX3_divide_70 (by decide) (by omega) (fun c_70 => ?_) (fun c_70 => ?_)
              ·
                have hfin : NatOk g mm (v / dv) := ⟨by omega, hd.2.2.2, hq, Or.inl c_70⟩
                refine lv_lload_n hx hb dX3_divide_100 rfl (lv_at hl 0 rfl) ?_
                refine lv_l2i (v := nI r) hx hb dX3_divide_101 (lN_i _) ?_
                refine gv_top (y := (nI (v % dv))) (congrArg nI hrm) ?_
                exact W.iret (v := (nI (v % dv))) hx hb hr (fun t ht hW => ⟨⟨_, (g, mm), rfl, ⟨rfl, hfin⟩, gB_end ht hW hP hK hD⟩, hS.F ht⟩) hS.2.2 dX3_divide_102
              ·
                refine lv_aload_n hx hb dX3_divide_73 rfl (lv_at hl 1 rfl) ?_
                refine gv_get (own := RX3) (D := (dC, dI)) (ci := 3) (C := RX3) (T := TX3) (N := 2) (v := .ref ce) hx hb hts (by decide +kernel) hown hK hP 0 rfl rfl 0 (by decide) (hts (.fieldLink RX3 9 "NumeralCipher$Natural" "cells" "[I") (by decide +kernel)) rfl rfl dX3_divide_74 ?_
                refine lv_aload_n hx hb dX3_divide_77 rfl (lv_at hl 1 rfl) ?_
                refine gv_get (own := RX3) (D := (dC, dI)) (ci := 3) (C := RX3) (T := TX3) (N := 2) (v := .int (nI mm)) hx hb hts (by decide +kernel) hown hK hP 0 rfl rfl 1 (by decide) (hts (.fieldLink RX3 19 "NumeralCipher$Natural" "size" "I") (by decide +kernel)) rfl rfl dX3_divide_78 ?_
                refine lv_iconst (v := nI 1) hx hb dX3_divide_81 (by decide) ?_
                refine gv_isub (r := mm - 1) hx hb dX3_divide_82 (by omega) ?_
                refine gv_iald hx hb hK hP 1 0 rfl rfl (by omega) (by omega) dX3_divide_83 ?_
                have hgm : g (mm - 1) < 4294967296 := hd.2.2.2 _ (by omega)
                refine gv_if_ne (tgt := 100) hx hb dX3_divide_84 (by decide) (by omega) (fun c_84 => ?_) (fun c_84 => ?_)
                ·
                  have h9 := nv_top (g := g) (m := mm - 1) c_84
                  rw [show mm - 1 + 1 = mm by omega, hq] at h9
                  have hfin : NatOk g mm (v / dv) := ⟨by omega, hd.2.2.2, hq, Or.inr h9⟩
                  refine lv_lload_n hx hb dX3_divide_100 rfl (lv_at hl 0 rfl) ?_
                  refine lv_l2i (v := nI r) hx hb dX3_divide_101 (lN_i _) ?_
                  refine gv_top (y := (nI (v % dv))) (congrArg nI hrm) ?_
                  exact W.iret (v := (nI (v % dv))) hx hb hr (fun t ht hW => ⟨⟨_, (g, mm), rfl, ⟨rfl, hfin⟩, gB_end ht hW hP hK hD⟩, hS.F ht⟩) hS.2.2 dX3_divide_102
                ·
                  refine lv_aload_n hx hb dX3_divide_87 rfl (lv_at hl 1 rfl) ?_
                  refine lv_dup hx hb dX3_divide_88 rfl ?_
                  refine gv_get (own := RX3) (D := (dC, dI)) (ci := 3) (C := RX3) (T := TX3) (N := 2) (v := .int (nI mm)) hx hb hts (by decide +kernel) hown hK hP 0 rfl rfl 1 (by decide) (hts (.fieldLink RX3 19 "NumeralCipher$Natural" "size" "I") (by decide +kernel)) rfl rfl dX3_divide_89 ?_
                  refine lv_iconst (v := nI 1) hx hb dX3_divide_92 (by decide) ?_
                  refine gv_isub (r := mm - 1) hx hb dX3_divide_93 (by omega) ?_
                  refine gv_put (own := RX3) (D := (dC, dI)) (ci := 3) (C := RX3) (T := TX3) (N := 2) (ws' := [(o, .inr (3, [.ref ce, .int (nI (mm - 1))])), (ce, .inl (cI, 17, .inl (gA g)))]) hx hb hts (by decide +kernel) tyX3 tyX3_ok nmX3 hown hK hP hD hS 0 rfl rfl 1 (by decide) (hts (.fieldLink RX3 19 "NumeralCipher$Natural" "size" "I") (by decide +kernel)) rfl rfl (by decide +kernel) (Nat.le_of_ble_eq_true rfl) rfl dX3_divide_94 (fun H locs hP hD hS => ?_)
                  refine lv_goto (tgt := 66) hx hb dX3_divide_97 (by decide) ?_
                  exact ih9_66 _ (by omega) (mm - 1) rfl (by omega) (by have h9 := nv_strip (g := g) (m := mm - 1) c_84; rw [show mm - 1 + 1 = mm by omega] at h9; rw [← h9]; exact hq) _ _ hP hD hS _ hl
          exact L66 _ n rfl (by omega) (by omega) _ _ hP hD hS _ (lv_sub hl [1, 2, 3] rfl)
        ·
          rw [nI_pred j] at hl
          refine lv_iload hx hb dX3_divide_17 (lv_at hl 0 rfl) ?_
          refine gv_if_lt (tgt := 66) hx hb dX3_divide_19 (by decide) (by omega) ?_
          have hbd := DivI.bound hd (by omega) hd2
          refine lv_lload_n hx hb dX3_divide_22 rfl (lv_at hl 1 rfl) ?_
          refine lv_bipush (v := nI 32) hx hb dX3_divide_23 (by decide) ?_
          refine gl_lshl (r := r * 4294967296) hx hb dX3_divide_25 (by omega) rfl ?_
          refine lv_aload_n hx hb dX3_divide_26 rfl (lv_at hl 2 rfl) ?_
          refine gv_get (own := RX3) (D := (dC, dI)) (ci := 3) (C := RX3) (T := TX3) (N := 2) (v := .ref ce) hx hb hts (by decide +kernel) hown hK hP 0 rfl rfl 0 (by decide) (hts (.fieldLink RX3 9 "NumeralCipher$Natural" "cells" "[I") (by decide +kernel)) rfl rfl dX3_divide_27 ?_
          refine lv_iload hx hb dX3_divide_30 (lv_at hl 0 rfl) ?_
          refine gv_iald hx hb hK hP 1 0 rfl rfl (by omega) (by omega) dX3_divide_32 ?_
          refine gv_top (y := nI (f j)) (congrArg nI (hd.2.2.1 j (Nat.lt_succ_self j))) ?_
          refine gv_i2lm (own := RX3) hx hb hown (hts (.constantLong RX3 29 4294967295) (by decide +kernel)) dX3_divide_33 dX3_divide_34 dX3_divide_37 hbd.1 ?_
          refine gl_lor (r := r * 4294967296 + f j) hx hb dX3_divide_38 (lor32 hbd.1) ?_
          refine lv_lstore (lv' := [(5, .long (lN (r * 4294967296 + f j))), (4, .int (nI j)), (2, .long (lN r)), (0, .ref o), (1, .int (nI dv))]) hx hb dX3_divide_39 hl (by decide) rfl (fun ls hl => ?_)
          refine lv_aload_n hx hb dX3_divide_41 rfl (lv_at hl 3 rfl) ?_
          refine gv_get (own := RX3) (D := (dC, dI)) (ci := 3) (C := RX3) (T := TX3) (N := 2) (v := .ref ce) hx hb hts (by decide +kernel) hown hK hP 0 rfl rfl 0 (by decide) (hts (.fieldLink RX3 9 "NumeralCipher$Natural" "cells" "[I") (by decide +kernel)) rfl rfl dX3_divide_42 ?_
          refine lv_iload hx hb dX3_divide_45 (lv_at hl 1 rfl) ?_
          refine lv_lload hx hb dX3_divide_47 (lv_at hl 0 rfl) ?_
          refine lv_iload_n hx hb dX3_divide_49 rfl (lv_at hl 4 rfl) ?_
          refine lv_i2l (v := lN dv) hx hb dX3_divide_50 (nI_l (by omega)) ?_
          refine gl_ldiv (r := (r * 4294967296 + f j) / dv) hx hb dX3_divide_51 hbd.2.2 (by omega) (by omega) rfl ?_
          refine lv_l2i (v := nI ((r * 4294967296 + f j) / dv)) hx hb dX3_divide_52 (lN_i _) ?_
          refine gv_iast (ws' := [(o, .inr (3, [.ref ce, .int (nI n)])), (ce, .inl (cI, 17, .inl (gA (gU g j ((r * 4294967296 + f j) / dv)))))]) hx hb hK hP hD hS 1 0 rfl rfl rfl (by omega) (by omega) dX3_divide_53 (fun H locs hP hD hS => ?_)
          refine lv_lload hx hb dX3_divide_54 (lv_at hl 0 rfl) ?_
          refine lv_iload_n hx hb dX3_divide_56 rfl (lv_at hl 4 rfl) ?_
          refine lv_i2l (v := lN dv) hx hb dX3_divide_57 (nI_l (by omega)) ?_
          refine gl_lrem (r := (r * 4294967296 + f j) % dv) hx hb dX3_divide_58 hbd.2.2 (by omega) (by omega) rfl ?_
          refine lv_lstore_n (lv' := [(2, .long (lN ((r * 4294967296 + f j) % dv))), (5, .long (lN (r * 4294967296 + f j))), (4, .int (nI j)), (0, .ref o), (1, .int (nI dv))]) hx hb dX3_divide_59 rfl hl (by decide) rfl (fun ls hl => ?_)
          refine lv_iinc (v := nI j - 1) (lv' := [(4, .int (nI j - 1)), (2, .long (lN ((r * 4294967296 + f j) % dv))), (5, .long (lN (r * 4294967296 + f j))), (0, .ref o), (1, .int (nI dv))]) hx hb dX3_divide_60 hl (k := 2) rfl (gz_pred1 _) (by decide) rfl (fun ls hl => ?_)
          refine lv_goto (tgt := 17) hx hb dX3_divide_63 (by decide) ?_
          exact ih9_17 _ (by omega) j (gU g j ((r * 4294967296 + f j) / dv)) ((r * 4294967296 + f j) % dv) rfl (by omega) (DivI.step hd (by omega) hn17) _ _ hP hD hS _ (lv_sub hl [0, 1, 3, 4] rfl)
    exact L17 _ n f 0 rfl (by omega) (DivI.start (by omega) hok.2.1) _ _ hP hD hS _ hl
  ·
    exact absurd c_2 (by omega)

set_option maxHeartbeats 4000000 in
set_option maxRecDepth 100000 in
/-- Natural.byteCount() -/
theorem c_X3_byteCount (l : Launch) (dC : Nat → ClassId) (dI : Nat → Nat → Nat) (cI : ClassId) (sz : Nat) (o : Nat) (ce : Nat) (n : Nat) (f : Nat → Nat) (v : Nat) (hok : NatOk f n v) : Met l yX3_byteCount wsX3_byteCount ({ frames := 0, cells := 0, slots := 0, locals := 0 }) (gPc dC dI cI [.ref o] [(o, .inr (3, [.ref ce, .int (nI n)])), (ce, .inl (cI, 17, .inl (gA f)))] sz) (QcRead (nI (bl v))) 0 0 (fun _ => False) := by
  refine Met.ofW (cc := cX3_byteCount) (maxL := 3) (ret := (some .int)) (by decide) rfl ?_
  intro p e s m args below meth c s₁ B9 hml hv
  obtain ⟨rfl, hsz, ⟨hP, hK, hD0⟩⟩ := hv
  have hx := B9.exec
  have hb := B9.bytes
  have hr := B9.returns
  have hts := atoms_spec (ws := wsX3_byteCount) B9.pre
  have hown : s.vm.findClass RX3 = some m.cls := findClass_of_methodNamed B9.named
  have hlocks := B9.notSynchronized
  subst hsz
  have hD := hD0.self (sz := s.heap.size)
  generalize hAe : va_A [(o, .inr (3, [.ref ce, .int (nI n)])), (ce, .inl (cI, 17, .inl (gA f)))] s.heap.size = A at hD
  have hA : ∀ q : Nat, s.heap.size ≤ q → A q := fun q h => by rw [← hAe]; exact Or.inr h
  have hS : va_S A s.heap s.heap [] := va_S.rf
  have hl := lv_entry ([.ref o]) (n := 3) (Nat.le_of_ble_eq_true rfl)
  rw [lg_entry_eq]
  generalize (lg_sl ([.ref o]) ++ List.replicate (3 - (lg_sl ([.ref o])).length) Slot.unset).toArray = ls at hl ⊢
  have hl : lv_has ls 3 [(0, .ref o)] := hl
  have hn17 := hok.1
  refine lv_aload_n hx hb dX3_byteCount_0 rfl (lv_at hl 0 rfl) ?_
  refine gv_get (own := RX3) (D := (dC, dI)) (ci := 3) (C := RX3) (T := TX3) (N := 2) (v := .int (nI n)) hx hb hts (by decide +kernel) hown hK hP 0 rfl rfl 1 (by decide) (hts (.fieldLink RX3 19 "NumeralCipher$Natural" "size" "I") (by decide +kernel)) rfl rfl dX3_byteCount_1 ?_
  refine gv_if_ne (tgt := 9) hx hb dX3_byteCount_4 (by decide) (by omega) (fun c_4 => ?_) (fun c_4 => ?_)
  ·
    refine lv_aload_n hx hb dX3_byteCount_9 rfl (lv_at hl 0 rfl) ?_
    refine gv_get (own := RX3) (D := (dC, dI)) (ci := 3) (C := RX3) (T := TX3) (N := 2) (v := .ref ce) hx hb hts (by decide +kernel) hown hK hP 0 rfl rfl 0 (by decide) (hts (.fieldLink RX3 9 "NumeralCipher$Natural" "cells" "[I") (by decide +kernel)) rfl rfl dX3_byteCount_10 ?_
    refine lv_aload_n hx hb dX3_byteCount_13 rfl (lv_at hl 0 rfl) ?_
    refine gv_get (own := RX3) (D := (dC, dI)) (ci := 3) (C := RX3) (T := TX3) (N := 2) (v := .int (nI n)) hx hb hts (by decide +kernel) hown hK hP 0 rfl rfl 1 (by decide) (hts (.fieldLink RX3 19 "NumeralCipher$Natural" "size" "I") (by decide +kernel)) rfl rfl dX3_byteCount_14 ?_
    refine lv_iconst (v := nI 1) hx hb dX3_byteCount_17 (by decide) ?_
    refine gv_isub (r := n - 1) hx hb dX3_byteCount_18 (by omega) ?_
    refine gv_iald hx hb hK hP 1 0 rfl rfl (by omega) (by omega) dX3_byteCount_19 ?_
    have hft : f (n - 1) < 4294967296 := hok.2.1 _ (by omega)
    refine lv_istore_n (lv' := [(1, .int (nI (f (n - 1)))), (0, .ref o)]) hx hb dX3_byteCount_20 rfl hl (by decide) rfl (fun ls hl => ?_)
    refine gw_lab (G := fun R args Q =>  ∀ (ls : Array Slot), lv_has ls 3 [(1, .int (nI (f (n - 1)))), (0, .ref o)] → W p l e R s m args below meth c s.heap [] 0 0 Q (F0 m 55 ls [.int (nI (tb (f (n - 1))))])) ?_ (fun L55 => ?_)
    ·
      intro  ls hl
      refine lv_istore_n (lv' := [(2, .int (nI (tb (f (n - 1))))), (1, .int (nI (f (n - 1)))), (0, .ref o)]) hx hb dX3_byteCount_55 rfl hl (by decide) rfl (fun ls hl => ?_)
      refine lv_iconst (v := nI 4) hx hb dX3_byteCount_56 (by decide) ?_
      refine lv_aload_n hx hb dX3_byteCount_57 rfl (lv_at hl 2 rfl) ?_
      refine gv_get (own := RX3) (D := (dC, dI)) (ci := 3) (C := RX3) (T := TX3) (N := 2) (v := .int (nI n)) hx hb hts (by decide +kernel) hown hK hP 0 rfl rfl 1 (by decide) (hts (.fieldLink RX3 19 "NumeralCipher$Natural" "size" "I") (by decide +kernel)) rfl rfl dX3_byteCount_58 ?_
      refine lv_iconst (v := nI 1) hx hb dX3_byteCount_61 (by decide) ?_
      refine gv_isub (r := n - 1) hx hb dX3_byteCount_62 (by omega) ?_
      refine gv_imul (r := 4 * (n - 1)) hx hb dX3_byteCount_63 rfl ?_
      refine lv_iload_n hx hb dX3_byteCount_64 rfl (lv_at hl 0 rfl) ?_
      refine gv_iadd (r := (4 * (n - 1)) + (tb (f (n - 1)))) hx hb dX3_byteCount_65 rfl ?_
      refine gv_top (y := nI (bl v)) (congrArg nI (by obtain ⟨q, rfl⟩ : ∃ q, n = q + 1 := ⟨n - 1, by omega⟩; exact hok.blS)) ?_
      exact W.iret (v := (nI (bl v))) hx hb hr (fun t ht hW => ⟨rfl, ht⟩) (fun q h => by cases h) dX3_byteCount_66
    refine lv_iload_n hx hb dX3_byteCount_21 rfl (lv_at hl 0 rfl) ?_
    refine lv_bipush (v := nI 24) hx hb dX3_byteCount_22 (by decide) ?_
    refine gv_iushr (r := (f (n - 1)) / 16777216) hx hb dX3_byteCount_24 (by omega) (by omega) rfl ?_
    refine gv_if_eq (tgt := 32) hx hb dX3_byteCount_25 (by decide) (by omega) (fun c_25 => ?_) (fun c_25 => ?_)
    ·
      refine lv_iload_n hx hb dX3_byteCount_32 rfl (lv_at hl 0 rfl) ?_
      refine lv_bipush (v := nI 16) hx hb dX3_byteCount_33 (by decide) ?_
      refine gv_iushr (r := (f (n - 1)) / 65536) hx hb dX3_byteCount_35 (by omega) (by omega) rfl ?_
      refine gv_if_eq (tgt := 43) hx hb dX3_byteCount_36 (by decide) (by omega) (fun c_36 => ?_) (fun c_36 => ?_)
      ·
        refine lv_iload_n hx hb dX3_byteCount_43 rfl (lv_at hl 0 rfl) ?_
        refine lv_bipush (v := nI 8) hx hb dX3_byteCount_44 (by decide) ?_
        refine gv_iushr (r := (f (n - 1)) / 256) hx hb dX3_byteCount_46 (by omega) (by omega) rfl ?_
        refine gv_if_eq (tgt := 54) hx hb dX3_byteCount_47 (by decide) (by omega) (fun c_47 => ?_) (fun c_47 => ?_)
        ·
          refine lv_iconst (v := nI 1) hx hb dX3_byteCount_54 (by decide) ?_
          refine gv_top (y := nI (tb (f (n - 1)))) (congrArg nI (tb_1 c_25 c_36 c_47)) ?_
          exact L55   _ hl
        ·
          refine lv_iconst (v := nI 2) hx hb dX3_byteCount_50 (by decide) ?_
          refine gv_top (y := nI (tb (f (n - 1)))) (congrArg nI (tb_2 c_25 c_36 c_47)) ?_
          refine lv_goto (tgt := 55) hx hb dX3_byteCount_51 (by decide) ?_
          exact L55   _ hl
      ·
        refine lv_iconst (v := nI 3) hx hb dX3_byteCount_39 (by decide) ?_
        refine gv_top (y := nI (tb (f (n - 1)))) (congrArg nI (tb_3 c_25 c_36)) ?_
        refine lv_goto (tgt := 55) hx hb dX3_byteCount_40 (by decide) ?_
        exact L55   _ hl
    ·
      refine lv_iconst (v := nI 4) hx hb dX3_byteCount_28 (by decide) ?_
      refine gv_top (y := nI (tb (f (n - 1)))) (congrArg nI (tb_4 c_25)) ?_
      refine lv_goto (tgt := 55) hx hb dX3_byteCount_29 (by decide) ?_
      exact L55   _ hl
  ·
    refine lv_iconst (v := nI 0) hx hb dX3_byteCount_7 (by decide) ?_
    refine gv_top (y := nI (bl v)) (congrArg nI (by rw [c_4] at hok; exact hok.bl0)) ?_
    exact W.iret (v := (nI (bl v))) hx hb hr (fun t ht hW => ⟨rfl, ht⟩) (fun q h => by cases h) dX3_byteCount_8
