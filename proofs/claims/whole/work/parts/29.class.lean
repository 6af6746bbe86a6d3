set_option maxHeartbeats 4000000 in
set_option maxRecDepth 100000 in
/-- the class throws, type: b1 -/
theorem x_X7_type_b1 (l : Launch) (hl0 : l.stackTraces = false) (dC : Nat → ClassId) (dI : Nat → Nat → Nat) (cI : ClassId) (tS : Nat) (sz : Nat) (x : Nat) (bf : Nat) (kb : Nat) (to : Nat) (ro : Nat) (fw : Nat) (sw : Nat) (na : Nat) (wo : Nat) (V9 : Nat) (y : Int32) (hbad : y.toInt < 1 ∨ 8 < y.toInt) : vx_Met l yX7_type wsX7_type ({ frames := 6, cells := 1, slots := 6, locals := 90 }) (gPf dC dI cI tS [.ref x, .long (lN V9), .int y] [(x, .inr (6, [.ref bf, .ref kb, .ref to, .ref ro, .ref fw, .ref sw, .ref na, .ref wo]))] sz) (va_Qi (fun (_ : Int32) (_ : Unit) => False) (fun _ _ => True) (va_A [(x, .inr (6, [.ref bf, .ref kb, .ref to, .ref ro, .ref fw, .ref sw, .ref na, .ref wo]))] sz)) (vx_X (fun _u : Unit => True) (fun E9 _u t => E9 = "java/lang/IllegalArgumentException" ∧ gB dC dI cI (va_A [(x, .inr (6, [.ref bf, .ref kb, .ref to, .ref ro, .ref fw, .ref sw, .ref na, .ref wo]))] sz) [(x, .inr (6, [.ref bf, .ref kb, .ref to, .ref ro, .ref fw, .ref sw, .ref na, .ref wo]))] t) (va_A [(x, .inr (6, [.ref bf, .ref kb, .ref to, .ref ro, .ref fw, .ref sw, .ref na, .ref wo]))] sz)) 1 6 (va_A [(x, .inr (6, [.ref bf, .ref kb, .ref to, .ref ro, .ref fw, .ref sw, .ref na, .ref wo]))] sz) := by
  refine vx_ofW (cc := cX7_type) (maxL := 5) (ret := (some .int)) (by decide) rfl ?_
  intro p e s m args below meth c s₁ B9 hml htb9 hv
  obtain ⟨rfl, hsz, ⟨hP, hK, hD0⟩, hG⟩ := hv
  have hx := B9.exec
  have hb := B9.bytes
  have hr := B9.returns
  have hts := atoms_spec (ws := wsX7_type) B9.pre
  have hown : s.vm.findClass RX7 = some m.cls := findClass_of_methodNamed B9.named
  have hlocks := B9.notSynchronized
  subst hsz
  have hD := hD0.self (sz := s.heap.size)
  generalize hAe : va_A [(x, .inr (6, [.ref bf, .ref kb, .ref to, .ref ro, .ref fw, .ref sw, .ref na, .ref wo]))] s.heap.size = A at hD hG ⊢
  have hE := hG.1
  have hA : ∀ q : Nat, s.heap.size ≤ q → A q := fun q h => by rw [← hAe]; exact Or.inr h
  have hS : va_S A s.heap s.heap [] := va_S.rf
  have hl := lv_entry ([.ref x, .long (lN V9), .int y]) (n := 5) (Nat.le_of_ble_eq_true rfl)
  rw [lg_entry_eq]
  generalize (lg_sl ([.ref x, .long (lN V9), .int y]) ++ List.replicate (5 - (lg_sl ([.ref x, .long (lN V9), .int y])).length) Slot.unset).toArray = ls at hl ⊢
  have hl : lv_has ls 5 [(0, .ref x), (1, .long (lN V9)), (3, .int y)] := hl
  refine lv_iload_n hx hb dX7_type_0 rfl (lv_at hl 2 rfl) ?_
  refine lv_iconst (v := nI 1) hx hb dX7_type_1 (by decide) ?_
  refine lv_icmp_lt (tgt := 11) hx hb dX7_type_2 (by decide) (fun c_2 => ?_) (fun c_2 => ?_)
  ·
    have h8 : y.toInt < (1 : Int) := by rw [Int32.lt_iff_toInt_lt, nI_toInt (by omega)] at c_2; exact c_2
    obtain ⟨sa9, hsa9⟩ := hG.2.2.1 (63, "n is not 1 .. 8") (by decide +kernel)
    exact vx_throwS (A := A) (own := RX7) (cls := "java/lang/IllegalArgumentException") (text := "n is not 1 .. 8") (names := ["java/lang/RuntimeException", "java/lang/Exception"]) (ik := 61) (is := 63) (ic := 65) hx hb hl0 hown (by decide +kernel) (by decide +kernel) (hts (.classLink RX7 61 "java/lang/IllegalArgumentException") (by decide +kernel)) (hts (.initialized "java/lang/IllegalArgumentException") (by decide +kernel)) hsa9 (vx_hat (B := [.castable "java/lang/IllegalArgumentException" "java/lang/IllegalArgumentException", .declares ⟨"java/lang/RuntimeException", "<init>", "(Ljava/lang/String;)V"⟩, .declares ⟨"java/lang/Exception", "<init>", "(Ljava/lang/String;)V"⟩, .declares ⟨"java/lang/Throwable", "<init>", "(Ljava/lang/String;)V"⟩]) (fun w9 hw9 => hts w9 (List.mem_cons_of_mem _ (List.mem_append_left _ (List.mem_append_right _ hw9)))) (by decide +kernel) (vx_c (hG.2.cast "java/lang/IllegalArgumentException" (by decide +kernel)) (vx_c (hG.2.decl _ (by decide +kernel)) (vx_c (hG.2.decl _ (by decide +kernel)) (vx_c (hG.2.decl _ (by decide +kernel)) vx_n))))) (by decide +kernel) hG.2.2.2.1 hG.2.2.2.2.1 hS (hl.1.trans hml.symm) dX7_type_11 dX7_type_14 dX7_type_15 dX7_type_17 dX7_type_20 (fun x9 h9 => (htb9 x9 h9).elim) (Nat.le_of_ble_eq_true rfl) (Nat.le_of_ble_eq_true rfl) (Nat.le_of_ble_eq_true rfl) (Nat.le_of_ble_eq_true rfl) hlocks (fun t h1 h2 h3 => ⟨(), trivial, ⟨rfl, gB_thr h1 h3 hP hK hD⟩, va_F_thr hS h2 h3⟩) hS.2.2 (Nat.le_of_ble_eq_true rfl) (Nat.le_of_ble_eq_true rfl)
  ·
    have h8 : ¬ y.toInt < (1 : Int) := by rw [Int32.lt_iff_toInt_lt, nI_toInt (by omega)] at c_2; exact c_2
    refine lv_iload_n hx hb dX7_type_5 rfl (lv_at hl 2 rfl) ?_
    refine lv_bipush (v := nI 8) hx hb dX7_type_6 (by decide) ?_
    refine lv_icmp_le (tgt := 21) hx hb dX7_type_8 (by decide) (fun c_8 => ?_) (fun c_8 => ?_)
    ·
      exact absurd (show y.toInt ≤ (8 : Int) by rw [Int32.le_iff_toInt_le, nI_toInt (by omega)] at c_8; exact c_8) (by omega)
    ·
      obtain ⟨sa9, hsa9⟩ := hG.2.2.1 (63, "n is not 1 .. 8") (by decide +kernel)
      exact vx_throwS (A := A) (own := RX7) (cls := "java/lang/IllegalArgumentException") (text := "n is not 1 .. 8") (names := ["java/lang/RuntimeException", "java/lang/Exception"]) (ik := 61) (is := 63) (ic := 65) hx hb hl0 hown (by decide +kernel) (by decide +kernel) (hts (.classLink RX7 61 "java/lang/IllegalArgumentException") (by decide +kernel)) (hts (.initialized "java/lang/IllegalArgumentException") (by decide +kernel)) hsa9 (vx_hat (B := [.castable "java/lang/IllegalArgumentException" "java/lang/IllegalArgumentException", .declares ⟨"java/lang/RuntimeException", "<init>", "(Ljava/lang/String;)V"⟩, .declares ⟨"java/lang/Exception", "<init>", "(Ljava/lang/String;)V"⟩, .declares ⟨"java/lang/Throwable", "<init>", "(Ljava/lang/String;)V"⟩]) (fun w9 hw9 => hts w9 (List.mem_cons_of_mem _ (List.mem_append_left _ (List.mem_append_right _ hw9)))) (by decide +kernel) (vx_c (hG.2.cast "java/lang/IllegalArgumentException" (by decide +kernel)) (vx_c (hG.2.decl _ (by decide +kernel)) (vx_c (hG.2.decl _ (by decide +kernel)) (vx_c (hG.2.decl _ (by decide +kernel)) vx_n))))) (by decide +kernel) hG.2.2.2.1 hG.2.2.2.2.1 hS (hl.1.trans hml.symm) dX7_type_11 dX7_type_14 dX7_type_15 dX7_type_17 dX7_type_20 (fun x9 h9 => (htb9 x9 h9).elim) (Nat.le_of_ble_eq_true rfl) (Nat.le_of_ble_eq_true rfl) (Nat.le_of_ble_eq_true rfl) (Nat.le_of_ble_eq_true rfl) hlocks (fun t h1 h2 h3 => ⟨(), trivial, ⟨rfl, gB_thr h1 h3 hP hK hD⟩, va_F_thr hS h2 h3⟩) hS.2.2 (Nat.le_of_ble_eq_true rfl) (Nat.le_of_ble_eq_true rfl)

set_option maxHeartbeats 4000000 in
set_option maxRecDepth 100000 in
/-- the class throws, type: b2 -/
theorem x_X7_type_b2 (l : Launch) (hl0 : l.stackTraces = false) (dC : Nat → ClassId) (dI : Nat → Nat → Nat) (cI : ClassId) (tS : Nat) (sz : Nat) (x : Nat) (bf : Nat) (kb : Nat) (to : Nat) (ro : Nat) (fw : Nat) (sw : Nat) (na : Nat) (wo : Nat) (bc : Nat) (bn : Nat) (V9 : Nat) (n : Nat) (hn1 : 1 ≤ n) (hn2 : n ≤ 8) (hbn : 64 < bn + n) (hb : bn ≤ 64) : vx_Met l yX7_type wsX7_type ({ frames := 6, cells := 1, slots := 6, locals := 90 }) (gPf dC dI cI tS [.ref x, .long (lN V9), .int (nI n)] [(x, .inr (6, [.ref bf, .ref kb, .ref to, .ref ro, .ref fw, .ref sw, .ref na, .ref wo])), (bf, .inr (1, [.ref bc, .int (nI bn)]))] sz) (va_Qi (fun (_ : Int32) (_ : Unit) => False) (fun _ _ => True) (va_A [(x, .inr (6, [.ref bf, .ref kb, .ref to, .ref ro, .ref fw, .ref sw, .ref na, .ref wo])), (bf, .inr (1, [.ref bc, .int (nI bn)]))] sz)) (vx_X (fun _u : Unit => True) (fun E9 _u t => E9 = "java/lang/UnsupportedOperationException" ∧ gB dC dI cI (va_A [(x, .inr (6, [.ref bf, .ref kb, .ref to, .ref ro, .ref fw, .ref sw, .ref na, .ref wo])), (bf, .inr (1, [.ref bc, .int (nI bn)]))] sz) [(x, .inr (6, [.ref bf, .ref kb, .ref to, .ref ro, .ref fw, .ref sw, .ref na, .ref wo])), (bf, .inr (1, [.ref bc, .int (nI bn)]))] t) (va_A [(x, .inr (6, [.ref bf, .ref kb, .ref to, .ref ro, .ref fw, .ref sw, .ref na, .ref wo])), (bf, .inr (1, [.ref bc, .int (nI bn)]))] sz)) 1 6 (va_A [(x, .inr (6, [.ref bf, .ref kb, .ref to, .ref ro, .ref fw, .ref sw, .ref na, .ref wo])), (bf, .inr (1, [.ref bc, .int (nI bn)]))] sz) := by
  refine vx_ofW (cc := cX7_type) (maxL := 5) (ret := (some .int)) (by decide) rfl ?_
  intro p e s m args below meth c s₁ B9 hml htb9 hv
  obtain ⟨rfl, hsz, ⟨hP, hK, hD0⟩, hG⟩ := hv
  have hx := B9.exec
  have hb := B9.bytes
  have hr := B9.returns
  have hts := atoms_spec (ws := wsX7_type) B9.pre
  have hown : s.vm.findClass RX7 = some m.cls := findClass_of_methodNamed B9.named
  have hlocks := B9.notSynchronized
  subst hsz
  have hD := hD0.self (sz := s.heap.size)
  generalize hAe : va_A [(x, .inr (6, [.ref bf, .ref kb, .ref to, .ref ro, .ref fw, .ref sw, .ref na, .ref wo])), (bf, .inr (1, [.ref bc, .int (nI bn)]))] s.heap.size = A at hD hG ⊢
  have hE := hG.1
  have hA : ∀ q : Nat, s.heap.size ≤ q → A q := fun q h => by rw [← hAe]; exact Or.inr h
  have hS : va_S A s.heap s.heap [] := va_S.rf
  have hl := lv_entry ([.ref x, .long (lN V9), .int (nI n)]) (n := 5) (Nat.le_of_ble_eq_true rfl)
  rw [lg_entry_eq]
  generalize (lg_sl ([.ref x, .long (lN V9), .int (nI n)]) ++ List.replicate (5 - (lg_sl ([.ref x, .long (lN V9), .int (nI n)])).length) Slot.unset).toArray = ls at hl ⊢
  have hl : lv_has ls 5 [(0, .ref x), (1, .long (lN V9)), (3, .int (nI n))] := hl
  refine lv_iload_n hx hb dX7_type_0 rfl (lv_at hl 2 rfl) ?_
  refine lv_iconst (v := nI 1) hx hb dX7_type_1 (by decide) ?_
  refine gv_icmp_lt (tgt := 11) hx hb dX7_type_2 (by decide) (by omega) (by omega) (fun c_2 => ?_) (fun c_2 => ?_)
  ·
    exact absurd c_2 (by omega)
  ·
    refine lv_iload_n hx hb dX7_type_5 rfl (lv_at hl 2 rfl) ?_
    refine lv_bipush (v := nI 8) hx hb dX7_type_6 (by decide) ?_
    refine gv_icmp_le (tgt := 21) hx hb dX7_type_8 (by decide) (by omega) (by omega) (fun c_8 => ?_) (fun c_8 => ?_)
    ·
      refine lv_aload_n hx hb dX7_type_21 rfl (lv_at hl 0 rfl) ?_
      refine gv_get (own := RX7) (D := (dC, dI)) (ci := 6) (C := RX7) (T := TX7) (N := 8) (v := .ref bf) hx hb hts (by decide +kernel) hown hK hP 0 rfl rfl 0 (by decide) (hts (.fieldLink RX7 10 "NumeralCipher" "buffer" "LNumeralCipher$Bytes;") (by decide +kernel)) rfl rfl dX7_type_22 ?_
      refine gv_getN (own := RX7) (D := (dC, dI)) (ci := 1) (C := RX1) (T := TX1) (N := 2) (v := .int (nI bn)) hx hb hts (by decide +kernel) hown hK hP 1 rfl rfl 1 (by decide) (hE.nest (.fieldLinkNest "NumeralCipher" 54 "NumeralCipher$Bytes" "size" "I" "NumeralCipher") (by decide +kernel)) rfl rfl dX7_type_25 ?_
      refine lv_iload_n hx hb dX7_type_28 rfl (lv_at hl 2 rfl) ?_
      refine gv_iadd (r := bn + n) hx hb dX7_type_29 rfl ?_
      refine lv_bipush (v := nI 64) hx hb dX7_type_30 (by decide) ?_
      refine gv_icmp_le (tgt := 45) hx hb dX7_type_32 (by decide) (by omega) (by omega) (fun c_32 => ?_) (fun c_32 => ?_)
      ·
        exact absurd c_32 (by omega)
      ·
        obtain ⟨sa9, hsa9⟩ := hG.2.2.1 (70, "the buffer would have more than 64 bytes") (by decide +kernel)
        exact vx_throwS (A := A) (own := RX7) (cls := "java/lang/UnsupportedOperationException") (text := "the buffer would have more than 64 bytes") (names := ["java/lang/RuntimeException", "java/lang/Exception"]) (ik := 68) (is := 70) (ic := 72) hx hb hl0 hown (by decide +kernel) (by decide +kernel) (hts (.classLink RX7 68 "java/lang/UnsupportedOperationException") (by decide +kernel)) (hts (.initialized "java/lang/UnsupportedOperationException") (by decide +kernel)) hsa9 (vx_hat (B := [.castable "java/lang/UnsupportedOperationException" "java/lang/UnsupportedOperationException", .declares ⟨"java/lang/RuntimeException", "<init>", "(Ljava/lang/String;)V"⟩, .declares ⟨"java/lang/Exception", "<init>", "(Ljava/lang/String;)V"⟩, .declares ⟨"java/lang/Throwable", "<init>", "(Ljava/lang/String;)V"⟩]) (fun w9 hw9 => hts w9 (List.mem_cons_of_mem _ (List.mem_append_right _ hw9))) (by decide +kernel) (vx_c (hG.2.cast "java/lang/UnsupportedOperationException" (by decide +kernel)) (vx_c (hG.2.decl _ (by decide +kernel)) (vx_c (hG.2.decl _ (by decide +kernel)) (vx_c (hG.2.decl _ (by decide +kernel)) vx_n))))) (by decide +kernel) hG.2.2.2.1 hG.2.2.2.2.1 hS (hl.1.trans hml.symm) dX7_type_35 dX7_type_38 dX7_type_39 dX7_type_41 dX7_type_44 (fun x9 h9 => (htb9 x9 h9).elim) (Nat.le_of_ble_eq_true rfl) (Nat.le_of_ble_eq_true rfl) (Nat.le_of_ble_eq_true rfl) (Nat.le_of_ble_eq_true rfl) hlocks (fun t h1 h2 h3 => ⟨(), trivial, ⟨rfl, gB_thr h1 h3 hP hK hD⟩, va_F_thr hS h2 h3⟩) hS.2.2 (Nat.le_of_ble_eq_true rfl) (Nat.le_of_ble_eq_true rfl)
    ·
      exact absurd c_8 (by omega)

set_option maxHeartbeats 4000000 in
set_option maxRecDepth 100000 in
/-- the class throws, keep: b1 -/
theorem x_X7_keep_b1 (l : Launch) (hl0 : l.stackTraces = false) (dC : Nat → ClassId) (dI : Nat → Nat → Nat) (cI : ClassId) (tS : Nat) (sz : Nat) (x : Nat) (bf : Nat) (kb : Nat) (to : Nat) (ro : Nat) (fw : Nat) (sw : Nat) (na : Nat) (wo : Nat) (bc : Nat) (bn : Nat) (y : Int32) (hb : bn ≤ 64) (hbad : y.toInt < 0 ∨ (bn : Int) < y.toInt) : vx_Met l yX7_keep wsX7_keep ({ frames := 6, cells := 1, slots := 6, locals := 90 }) (gPf dC dI cI tS [.ref x, .int y] [(x, .inr (6, [.ref bf, .ref kb, .ref to, .ref ro, .ref fw, .ref sw, .ref na, .ref wo])), (bf, .inr (1, [.ref bc, .int (nI bn)]))] sz) (va_Qv (fun _ : Unit => False) (fun _ _ => True) (va_A [(x, .inr (6, [.ref bf, .ref kb, .ref to, .ref ro, .ref fw, .ref sw, .ref na, .ref wo])), (bf, .inr (1, [.ref bc, .int (nI bn)]))] sz)) (vx_X (fun _u : Unit => True) (fun E9 _u t => E9 = "java/lang/IllegalArgumentException" ∧ gB dC dI cI (va_A [(x, .inr (6, [.ref bf, .ref kb, .ref to, .ref ro, .ref fw, .ref sw, .ref na, .ref wo])), (bf, .inr (1, [.ref bc, .int (nI bn)]))] sz) [(x, .inr (6, [.ref bf, .ref kb, .ref to, .ref ro, .ref fw, .ref sw, .ref na, .ref wo])), (bf, .inr (1, [.ref bc, .int (nI bn)]))] t) (va_A [(x, .inr (6, [.ref bf, .ref kb, .ref to, .ref ro, .ref fw, .ref sw, .ref na, .ref wo])), (bf, .inr (1, [.ref bc, .int (nI bn)]))] sz)) 1 6 (va_A [(x, .inr (6, [.ref bf, .ref kb, .ref to, .ref ro, .ref fw, .ref sw, .ref na, .ref wo])), (bf, .inr (1, [.ref bc, .int (nI bn)]))] sz) := by
  refine vx_ofW (cc := cX7_keep) (maxL := 2) (ret := none) (by decide) rfl ?_
  intro p e s m args below meth c s₁ B9 hml htb9 hv
  obtain ⟨rfl, hsz, ⟨hP, hK, hD0⟩, hG⟩ := hv
  have hx := B9.exec
  have hb := B9.bytes
  have hr := B9.returns
  have hts := atoms_spec (ws := wsX7_keep) B9.pre
  have hown : s.vm.findClass RX7 = some m.cls := findClass_of_methodNamed B9.named
  have hlocks := B9.notSynchronized
  subst hsz
  have hD := hD0.self (sz := s.heap.size)
  generalize hAe : va_A [(x, .inr (6, [.ref bf, .ref kb, .ref to, .ref ro, .ref fw, .ref sw, .ref na, .ref wo])), (bf, .inr (1, [.ref bc, .int (nI bn)]))] s.heap.size = A at hD hG ⊢
  have hE := hG.1
  have hA : ∀ q : Nat, s.heap.size ≤ q → A q := fun q h => by rw [← hAe]; exact Or.inr h
  have hS : va_S A s.heap s.heap [] := va_S.rf
  have hl := lv_entry ([.ref x, .int y]) (n := 2) (Nat.le_of_ble_eq_true rfl)
  rw [lg_entry_eq]
  generalize (lg_sl ([.ref x, .int y]) ++ List.replicate (2 - (lg_sl ([.ref x, .int y])).length) Slot.unset).toArray = ls at hl ⊢
  have hl : lv_has ls 2 [(0, .ref x), (1, .int y)] := hl
  refine lv_iload_n hx hb dX7_keep_0 rfl (lv_at hl 1 rfl) ?_
  refine lv_if_lt (tgt := 15) hx hb dX7_keep_1 (by decide) (fun c_1 => ?_) (fun c_1 => ?_)
  ·
    have h8 : y.toInt < 0 := by rw [Int32.lt_iff_toInt_lt, Int32.toInt_zero] at c_1; exact c_1
    obtain ⟨sa9, hsa9⟩ := hG.2.2.1 (76, "the buffer has not so many bytes") (by decide +kernel)
    exact vx_throwS (A := A) (own := RX7) (cls := "java/lang/IllegalArgumentException") (text := "the buffer has not so many bytes") (names := ["java/lang/RuntimeException", "java/lang/Exception"]) (ik := 61) (is := 76) (ic := 65) hx hb hl0 hown (by decide +kernel) (by decide +kernel) (hts (.classLink RX7 61 "java/lang/IllegalArgumentException") (by decide +kernel)) (hts (.initialized "java/lang/IllegalArgumentException") (by decide +kernel)) hsa9 (vx_hat (B := [.castable "java/lang/IllegalArgumentException" "java/lang/IllegalArgumentException", .declares ⟨"java/lang/RuntimeException", "<init>", "(Ljava/lang/String;)V"⟩, .declares ⟨"java/lang/Exception", "<init>", "(Ljava/lang/String;)V"⟩, .declares ⟨"java/lang/Throwable", "<init>", "(Ljava/lang/String;)V"⟩]) (fun w9 hw9 => hts w9 (List.mem_cons_of_mem _ (List.mem_append_right _ hw9))) (by decide +kernel) (vx_c (hG.2.cast "java/lang/IllegalArgumentException" (by decide +kernel)) (vx_c (hG.2.decl _ (by decide +kernel)) (vx_c (hG.2.decl _ (by decide +kernel)) (vx_c (hG.2.decl _ (by decide +kernel)) vx_n))))) (by decide +kernel) hG.2.2.2.1 hG.2.2.2.2.1 hS (hl.1.trans hml.symm) dX7_keep_15 dX7_keep_18 dX7_keep_19 dX7_keep_21 dX7_keep_24 (fun x9 h9 => (htb9 x9 h9).elim) (Nat.le_of_ble_eq_true rfl) (Nat.le_of_ble_eq_true rfl) (Nat.le_of_ble_eq_true rfl) (Nat.le_of_ble_eq_true rfl) hlocks (fun t h1 h2 h3 => ⟨(), trivial, ⟨rfl, gB_thr h1 h3 hP hK hD⟩, va_F_thr hS h2 h3⟩) hS.2.2 (Nat.le_of_ble_eq_true rfl) (Nat.le_of_ble_eq_true rfl)
  ·
    have h8 : ¬ y.toInt < 0 := by rw [Int32.lt_iff_toInt_lt, Int32.toInt_zero] at c_1; exact c_1
    refine lv_iload_n hx hb dX7_keep_4 rfl (lv_at hl 1 rfl) ?_
    refine lv_aload_n hx hb dX7_keep_5 rfl (lv_at hl 0 rfl) ?_
    refine gv_get (own := RX7) (D := (dC, dI)) (ci := 6) (C := RX7) (T := TX7) (N := 8) (v := .ref bf) hx hb hts (by decide +kernel) hown hK hP 0 rfl rfl 0 (by decide) (hts (.fieldLink RX7 10 "NumeralCipher" "buffer" "LNumeralCipher$Bytes;") (by decide +kernel)) rfl rfl dX7_keep_6 ?_
    refine gv_getN (own := RX7) (D := (dC, dI)) (ci := 1) (C := RX1) (T := TX1) (N := 2) (v := .int (nI bn)) hx hb hts (by decide +kernel) hown hK hP 1 rfl rfl 1 (by decide) (hE.nest (.fieldLinkNest "NumeralCipher" 54 "NumeralCipher$Bytes" "size" "I" "NumeralCipher") (by decide +kernel)) rfl rfl dX7_keep_9 ?_
    refine lv_icmp_le (tgt := 25) hx hb dX7_keep_12 (by decide) (fun c_12 => ?_) (fun c_12 => ?_)
    ·
      exact absurd (show y.toInt ≤ (bn : Int) by rw [Int32.le_iff_toInt_le, nI_toInt (by omega)] at c_12; exact c_12) (by omega)
    ·
      obtain ⟨sa9, hsa9⟩ := hG.2.2.1 (76, "the buffer has not so many bytes") (by decide +kernel)
      exact vx_throwS (A := A) (own := RX7) (cls := "java/lang/IllegalArgumentException") (text := "the buffer has not so many bytes") (names := ["java/lang/RuntimeException", "java/lang/Exception"]) (ik := 61) (is := 76) (ic := 65) hx hb hl0 hown (by decide +kernel) (by decide +kernel) (hts (.classLink RX7 61 "java/lang/IllegalArgumentException") (by decide +kernel)) (hts (.initialized "java/lang/IllegalArgumentException") (by decide +kernel)) hsa9 (vx_hat (B := [.castable "java/lang/IllegalArgumentException" "java/lang/IllegalArgumentException", .declares ⟨"java/lang/RuntimeException", "<init>", "(Ljava/lang/String;)V"⟩, .declares ⟨"java/lang/Exception", "<init>", "(Ljava/lang/String;)V"⟩, .declares ⟨"java/lang/Throwable", "<init>", "(Ljava/lang/String;)V"⟩]) (fun w9 hw9 => hts w9 (List.mem_cons_of_mem _ (List.mem_append_right _ hw9))) (by decide +kernel) (vx_c (hG.2.cast "java/lang/IllegalArgumentException" (by decide +kernel)) (vx_c (hG.2.decl _ (by decide +kernel)) (vx_c (hG.2.decl _ (by decide +kernel)) (vx_c (hG.2.decl _ (by decide +kernel)) vx_n))))) (by decide +kernel) hG.2.2.2.1 hG.2.2.2.2.1 hS (hl.1.trans hml.symm) dX7_keep_15 dX7_keep_18 dX7_keep_19 dX7_keep_21 dX7_keep_24 (fun x9 h9 => (htb9 x9 h9).elim) (Nat.le_of_ble_eq_true rfl) (Nat.le_of_ble_eq_true rfl) (Nat.le_of_ble_eq_true rfl) (Nat.le_of_ble_eq_true rfl) hlocks (fun t h1 h2 h3 => ⟨(), trivial, ⟨rfl, gB_thr h1 h3 hP hK hD⟩, va_F_thr hS h2 h3⟩) hS.2.2 (Nat.le_of_ble_eq_true rfl) (Nat.le_of_ble_eq_true rfl)

set_option maxHeartbeats 4000000 in
set_option maxRecDepth 100000 in
/-- the class throws, typed: b1 -/
theorem x_X7_typed_b1 (l : Launch) (hl0 : l.stackTraces = false) (dC : Nat → ClassId) (dI : Nat → Nat → Nat) (cI : ClassId) (tS : Nat) (sz : Nat) (x : Nat) (bf : Nat) (kb : Nat) (to : Nat) (ro : Nat) (fw : Nat) (sw : Nat) (na : Nat) (wo : Nat) (bc : Nat) (bn : Nat) (y : Int32) (hb : bn ≤ 64) (hbad : y.toInt < 0 ∨ (bn : Int) ≤ y.toInt) : vx_Met l yX7_typed wsX7_typed ({ frames := 6, cells := 1, slots := 6, locals := 90 }) (gPf dC dI cI tS [.ref x, .int y] [(x, .inr (6, [.ref bf, .ref kb, .ref to, .ref ro, .ref fw, .ref sw, .ref na, .ref wo])), (bf, .inr (1, [.ref bc, .int (nI bn)]))] sz) (va_Qi (fun (_ : Int32) (_ : Unit) => False) (fun _ _ => True) (va_A [(x, .inr (6, [.ref bf, .ref kb, .ref to, .ref ro, .ref fw, .ref sw, .ref na, .ref wo])), (bf, .inr (1, [.ref bc, .int (nI bn)]))] sz)) (vx_X (fun _u : Unit => True) (fun E9 _u t => E9 = "java/lang/IndexOutOfBoundsException" ∧ gB dC dI cI (va_A [(x, .inr (6, [.ref bf, .ref kb, .ref to, .ref ro, .ref fw, .ref sw, .ref na, .ref wo])), (bf, .inr (1, [.ref bc, .int (nI bn)]))] sz) [(x, .inr (6, [.ref bf, .ref kb, .ref to, .ref ro, .ref fw, .ref sw, .ref na, .ref wo])), (bf, .inr (1, [.ref bc, .int (nI bn)]))] t) (va_A [(x, .inr (6, [.ref bf, .ref kb, .ref to, .ref ro, .ref fw, .ref sw, .ref na, .ref wo])), (bf, .inr (1, [.ref bc, .int (nI bn)]))] sz)) 1 6 (va_A [(x, .inr (6, [.ref bf, .ref kb, .ref to, .ref ro, .ref fw, .ref sw, .ref na, .ref wo])), (bf, .inr (1, [.ref bc, .int (nI bn)]))] sz) := by
  refine vx_ofW (cc := cX7_typed) (maxL := 2) (ret := (some .int)) (by decide) rfl ?_
  intro p e s m args below meth c s₁ B9 hml htb9 hv
  obtain ⟨rfl, hsz, ⟨hP, hK, hD0⟩, hG⟩ := hv
  have hx := B9.exec
  have hb := B9.bytes
  have hr := B9.returns
  have hts := atoms_spec (ws := wsX7_typed) B9.pre
  have hown : s.vm.findClass RX7 = some m.cls := findClass_of_methodNamed B9.named
  have hlocks := B9.notSynchronized
  subst hsz
  have hD := hD0.self (sz := s.heap.size)
  generalize hAe : va_A [(x, .inr (6, [.ref bf, .ref kb, .ref to, .ref ro, .ref fw, .ref sw, .ref na, .ref wo])), (bf, .inr (1, [.ref bc, .int (nI bn)]))] s.heap.size = A at hD hG ⊢
  have hE := hG.1
  have hA : ∀ q : Nat, s.heap.size ≤ q → A q := fun q h => by rw [← hAe]; exact Or.inr h
  have hS : va_S A s.heap s.heap [] := va_S.rf
  have hl := lv_entry ([.ref x, .int y]) (n := 2) (Nat.le_of_ble_eq_true rfl)
  rw [lg_entry_eq]
  generalize (lg_sl ([.ref x, .int y]) ++ List.replicate (2 - (lg_sl ([.ref x, .int y])).length) Slot.unset).toArray = ls at hl ⊢
  have hl : lv_has ls 2 [(0, .ref x), (1, .int y)] := hl
  refine lv_iload_n hx hb dX7_typed_0 rfl (lv_at hl 1 rfl) ?_
  refine lv_if_lt (tgt := 15) hx hb dX7_typed_1 (by decide) (fun c_1 => ?_) (fun c_1 => ?_)
  ·
    have h8 : y.toInt < 0 := by rw [Int32.lt_iff_toInt_lt, Int32.toInt_zero] at c_1; exact c_1
    obtain ⟨sa9, hsa9⟩ := hG.2.2.1 (80, "the buffer has no such byte") (by decide +kernel)
    exact vx_throwS (A := A) (own := RX7) (cls := "java/lang/IndexOutOfBoundsException") (text := "the buffer has no such byte") (names := ["java/lang/RuntimeException", "java/lang/Exception"]) (ik := 78) (is := 80) (ic := 82) hx hb hl0 hown (by decide +kernel) (by decide +kernel) (hts (.classLink RX7 78 "java/lang/IndexOutOfBoundsException") (by decide +kernel)) (hts (.initialized "java/lang/IndexOutOfBoundsException") (by decide +kernel)) hsa9 (vx_hat (B := [.castable "java/lang/IndexOutOfBoundsException" "java/lang/IndexOutOfBoundsException", .declares ⟨"java/lang/RuntimeException", "<init>", "(Ljava/lang/String;)V"⟩, .declares ⟨"java/lang/Exception", "<init>", "(Ljava/lang/String;)V"⟩, .declares ⟨"java/lang/Throwable", "<init>", "(Ljava/lang/String;)V"⟩]) (fun w9 hw9 => hts w9 (List.mem_cons_of_mem _ (List.mem_append_right _ hw9))) (by decide +kernel) (vx_c (hG.2.cast "java/lang/IndexOutOfBoundsException" (by decide +kernel)) (vx_c (hG.2.decl _ (by decide +kernel)) (vx_c (hG.2.decl _ (by decide +kernel)) (vx_c (hG.2.decl _ (by decide +kernel)) vx_n))))) (by decide +kernel) hG.2.2.2.1 hG.2.2.2.2.1 hS (hl.1.trans hml.symm) dX7_typed_15 dX7_typed_18 dX7_typed_19 dX7_typed_21 dX7_typed_24 (fun x9 h9 => (htb9 x9 h9).elim) (Nat.le_of_ble_eq_true rfl) (Nat.le_of_ble_eq_true rfl) (Nat.le_of_ble_eq_true rfl) (Nat.le_of_ble_eq_true rfl) hlocks (fun t h1 h2 h3 => ⟨(), trivial, ⟨rfl, gB_thr h1 h3 hP hK hD⟩, va_F_thr hS h2 h3⟩) hS.2.2 (Nat.le_of_ble_eq_true rfl) (Nat.le_of_ble_eq_true rfl)
  ·
    have h8 : ¬ y.toInt < 0 := by rw [Int32.lt_iff_toInt_lt, Int32.toInt_zero] at c_1; exact c_1
    refine lv_iload_n hx hb dX7_typed_4 rfl (lv_at hl 1 rfl) ?_
    refine lv_aload_n hx hb dX7_typed_5 rfl (lv_at hl 0 rfl) ?_
    refine gv_get (own := RX7) (D := (dC, dI)) (ci := 6) (C := RX7) (T := TX7) (N := 8) (v := .ref bf) hx hb hts (by decide +kernel) hown hK hP 0 rfl rfl 0 (by decide) (hts (.fieldLink RX7 10 "NumeralCipher" "buffer" "LNumeralCipher$Bytes;") (by decide +kernel)) rfl rfl dX7_typed_6 ?_
    refine gv_getN (own := RX7) (D := (dC, dI)) (ci := 1) (C := RX1) (T := TX1) (N := 2) (v := .int (nI bn)) hx hb hts (by decide +kernel) hown hK hP 1 rfl rfl 1 (by decide) (hE.nest (.fieldLinkNest "NumeralCipher" 54 "NumeralCipher$Bytes" "size" "I" "NumeralCipher") (by decide +kernel)) rfl rfl dX7_typed_9 ?_
    refine lv_icmp_lt (tgt := 25) hx hb dX7_typed_12 (by decide) (fun c_12 => ?_) (fun c_12 => ?_)
    ·
      exact absurd (show y.toInt < (bn : Int) by rw [Int32.lt_iff_toInt_lt, nI_toInt (by omega)] at c_12; exact c_12) (by omega)
    ·
      obtain ⟨sa9, hsa9⟩ := hG.2.2.1 (80, "the buffer has no such byte") (by decide +kernel)
      exact vx_throwS (A := A) (own := RX7) (cls := "java/lang/IndexOutOfBoundsException") (text := "the buffer has no such byte") (names := ["java/lang/RuntimeException", "java/lang/Exception"]) (ik := 78) (is := 80) (ic := 82) hx hb hl0 hown (by decide +kernel) (by decide +kernel) (hts (.classLink RX7 78 "java/lang/IndexOutOfBoundsException") (by decide +kernel)) (hts (.initialized "java/lang/IndexOutOfBoundsException") (by decide +kernel)) hsa9 (vx_hat (B := [.castable "java/lang/IndexOutOfBoundsException" "java/lang/IndexOutOfBoundsException", .declares ⟨"java/lang/RuntimeException", "<init>", "(Ljava/lang/String;)V"⟩, .declares ⟨"java/lang/Exception", "<init>", "(Ljava/lang/String;)V"⟩, .declares ⟨"java/lang/Throwable", "<init>", "(Ljava/lang/String;)V"⟩]) (fun w9 hw9 => hts w9 (List.mem_cons_of_mem _ (List.mem_append_right _ hw9))) (by decide +kernel) (vx_c (hG.2.cast "java/lang/IndexOutOfBoundsException" (by decide +kernel)) (vx_c (hG.2.decl _ (by decide +kernel)) (vx_c (hG.2.decl _ (by decide +kernel)) (vx_c (hG.2.decl _ (by decide +kernel)) vx_n))))) (by decide +kernel) hG.2.2.2.1 hG.2.2.2.2.1 hS (hl.1.trans hml.symm) dX7_typed_15 dX7_typed_18 dX7_typed_19 dX7_typed_21 dX7_typed_24 (fun x9 h9 => (htb9 x9 h9).elim) (Nat.le_of_ble_eq_true rfl) (Nat.le_of_ble_eq_true rfl) (Nat.le_of_ble_eq_true rfl) (Nat.le_of_ble_eq_true rfl) hlocks (fun t h1 h2 h3 => ⟨(), trivial, ⟨rfl, gB_thr h1 h3 hP hK hD⟩, va_F_thr hS h2 h3⟩) hS.2.2 (Nat.le_of_ble_eq_true rfl) (Nat.le_of_ble_eq_true rfl)

set_option maxHeartbeats 4000000 in
set_option maxRecDepth 100000 in
/-- the class throws, key: b1 -/
theorem x_X7_key_b1 (l : Launch) (hl0 : l.stackTraces = false) (dC : Nat → ClassId) (dI : Nat → Nat → Nat) (cI : ClassId) (tS : Nat) (sz : Nat) (x : Nat) (bf : Nat) (kb : Nat) (to : Nat) (ro : Nat) (fw : Nat) (sw : Nat) (na : Nat) (wo : Nat) (bc : Nat) (bn : Nat) (hb : bn ≤ 64) (hbad : bn ≠ 16 ∧ bn ≠ 24 ∧ bn ≠ 32) : vx_Met l yX7_key wsX7_key ({ frames := 6, cells := 1, slots := 6, locals := 90 }) (gPf dC dI cI tS [.ref x] [(x, .inr (6, [.ref bf, .ref kb, .ref to, .ref ro, .ref fw, .ref sw, .ref na, .ref wo])), (bf, .inr (1, [.ref bc, .int (nI bn)]))] sz) (va_Qi (fun (_ : Int32) (_ : Unit) => False) (fun _ _ => True) (va_A [(x, .inr (6, [.ref bf, .ref kb, .ref to, .ref ro, .ref fw, .ref sw, .ref na, .ref wo])), (bf, .inr (1, [.ref bc, .int (nI bn)]))] sz)) (vx_X (fun _u : Unit => True) (fun E9 _u t => E9 = "java/lang/IllegalArgumentException" ∧ gB dC dI cI (va_A [(x, .inr (6, [.ref bf, .ref kb, .ref to, .ref ro, .ref fw, .ref sw, .ref na, .ref wo])), (bf, .inr (1, [.ref bc, .int (nI bn)]))] sz) [(x, .inr (6, [.ref bf, .ref kb, .ref to, .ref ro, .ref fw, .ref sw, .ref na, .ref wo])), (bf, .inr (1, [.ref bc, .int (nI bn)]))] t) (va_A [(x, .inr (6, [.ref bf, .ref kb, .ref to, .ref ro, .ref fw, .ref sw, .ref na, .ref wo])), (bf, .inr (1, [.ref bc, .int (nI bn)]))] sz)) 1 6 (va_A [(x, .inr (6, [.ref bf, .ref kb, .ref to, .ref ro, .ref fw, .ref sw, .ref na, .ref wo])), (bf, .inr (1, [.ref bc, .int (nI bn)]))] sz) := by
  refine vx_ofW (cc := cX7_key) (maxL := 1) (ret := (some .int)) (by decide) rfl ?_
  intro p e s m args below meth c s₁ B9 hml htb9 hv
  obtain ⟨rfl, hsz, ⟨hP, hK, hD0⟩, hG⟩ := hv
  have hx := B9.exec
  have hb := B9.bytes
  have hr := B9.returns
  have hts := atoms_spec (ws := wsX7_key) B9.pre
  have hown : s.vm.findClass RX7 = some m.cls := findClass_of_methodNamed B9.named
  have hlocks := B9.notSynchronized
  subst hsz
  have hD := hD0.self (sz := s.heap.size)
  generalize hAe : va_A [(x, .inr (6, [.ref bf, .ref kb, .ref to, .ref ro, .ref fw, .ref sw, .ref na, .ref wo])), (bf, .inr (1, [.ref bc, .int (nI bn)]))] s.heap.size = A at hD hG ⊢
  have hE := hG.1
  have hA : ∀ q : Nat, s.heap.size ≤ q → A q := fun q h => by rw [← hAe]; exact Or.inr h
  have hS : va_S A s.heap s.heap [] := va_S.rf
  have hl := lv_entry ([.ref x]) (n := 1) (Nat.le_of_ble_eq_true rfl)
  rw [lg_entry_eq]
  generalize (lg_sl ([.ref x]) ++ List.replicate (1 - (lg_sl ([.ref x])).length) Slot.unset).toArray = ls at hl ⊢
  have hl : lv_has ls 1 [(0, .ref x)] := hl
  refine lv_aload_n hx hb dX7_key_0 rfl (lv_at hl 0 rfl) ?_
  refine gv_get (own := RX7) (D := (dC, dI)) (ci := 6) (C := RX7) (T := TX7) (N := 8) (v := .ref bf) hx hb hts (by decide +kernel) hown hK hP 0 rfl rfl 0 (by decide) (hts (.fieldLink RX7 10 "NumeralCipher" "buffer" "LNumeralCipher$Bytes;") (by decide +kernel)) rfl rfl dX7_key_1 ?_
  refine gv_getN (own := RX7) (D := (dC, dI)) (ci := 1) (C := RX1) (T := TX1) (N := 2) (v := .int (nI bn)) hx hb hts (by decide +kernel) hown hK hP 1 rfl rfl 1 (by decide) (hE.nest (.fieldLinkNest "NumeralCipher" 54 "NumeralCipher$Bytes" "size" "I" "NumeralCipher") (by decide +kernel)) rfl rfl dX7_key_4 ?_
  refine lv_bipush (v := nI 16) hx hb dX7_key_7 (by decide) ?_
  refine gv_icmp_eq (tgt := 46) hx hb dX7_key_9 (by decide) (by omega) (by omega) (fun c_9 => ?_) (fun c_9 => ?_)
  ·
    exact absurd c_9 (by omega)
  ·
    refine lv_aload_n hx hb dX7_key_12 rfl (lv_at hl 0 rfl) ?_
    refine gv_get (own := RX7) (D := (dC, dI)) (ci := 6) (C := RX7) (T := TX7) (N := 8) (v := .ref bf) hx hb hts (by decide +kernel) hown hK hP 0 rfl rfl 0 (by decide) (hts (.fieldLink RX7 10 "NumeralCipher" "buffer" "LNumeralCipher$Bytes;") (by decide +kernel)) rfl rfl dX7_key_13 ?_
    refine gv_getN (own := RX7) (D := (dC, dI)) (ci := 1) (C := RX1) (T := TX1) (N := 2) (v := .int (nI bn)) hx hb hts (by decide +kernel) hown hK hP 1 rfl rfl 1 (by decide) (hE.nest (.fieldLinkNest "NumeralCipher" 54 "NumeralCipher$Bytes" "size" "I" "NumeralCipher") (by decide +kernel)) rfl rfl dX7_key_16 ?_
    refine lv_bipush (v := nI 24) hx hb dX7_key_19 (by decide) ?_
    refine gv_icmp_eq (tgt := 46) hx hb dX7_key_21 (by decide) (by omega) (by omega) (fun c_21 => ?_) (fun c_21 => ?_)
    ·
      exact absurd c_21 (by omega)
    ·
      refine lv_aload_n hx hb dX7_key_24 rfl (lv_at hl 0 rfl) ?_
      refine gv_get (own := RX7) (D := (dC, dI)) (ci := 6) (C := RX7) (T := TX7) (N := 8) (v := .ref bf) hx hb hts (by decide +kernel) hown hK hP 0 rfl rfl 0 (by decide) (hts (.fieldLink RX7 10 "NumeralCipher" "buffer" "LNumeralCipher$Bytes;") (by decide +kernel)) rfl rfl dX7_key_25 ?_
      refine gv_getN (own := RX7) (D := (dC, dI)) (ci := 1) (C := RX1) (T := TX1) (N := 2) (v := .int (nI bn)) hx hb hts (by decide +kernel) hown hK hP 1 rfl rfl 1 (by decide) (hE.nest (.fieldLinkNest "NumeralCipher" 54 "NumeralCipher$Bytes" "size" "I" "NumeralCipher") (by decide +kernel)) rfl rfl dX7_key_28 ?_
      refine lv_bipush (v := nI 32) hx hb dX7_key_31 (by decide) ?_
      refine gv_icmp_eq (tgt := 46) hx hb dX7_key_33 (by decide) (by omega) (by omega) (fun c_33 => ?_) (fun c_33 => ?_)
      ·
        exact absurd c_33 (by omega)
      ·
        obtain ⟨sa9, hsa9⟩ := hG.2.2.1 (83, "a key has 16, 24 or 32 bytes") (by decide +kernel)
        exact vx_throwS (A := A) (own := RX7) (cls := "java/lang/IllegalArgumentException") (text := "a key has 16, 24 or 32 bytes") (names := ["java/lang/RuntimeException", "java/lang/Exception"]) (ik := 61) (is := 83) (ic := 65) hx hb hl0 hown (by decide +kernel) (by decide +kernel) (hts (.classLink RX7 61 "java/lang/IllegalArgumentException") (by decide +kernel)) (hts (.initialized "java/lang/IllegalArgumentException") (by decide +kernel)) hsa9 (vx_hat (B := [.castable "java/lang/IllegalArgumentException" "java/lang/IllegalArgumentException", .declares ⟨"java/lang/RuntimeException", "<init>", "(Ljava/lang/String;)V"⟩, .declares ⟨"java/lang/Exception", "<init>", "(Ljava/lang/String;)V"⟩, .declares ⟨"java/lang/Throwable", "<init>", "(Ljava/lang/String;)V"⟩]) (fun w9 hw9 => hts w9 (List.mem_cons_of_mem _ (List.mem_append_right _ hw9))) (by decide +kernel) (vx_c (hG.2.cast "java/lang/IllegalArgumentException" (by decide +kernel)) (vx_c (hG.2.decl _ (by decide +kernel)) (vx_c (hG.2.decl _ (by decide +kernel)) (vx_c (hG.2.decl _ (by decide +kernel)) vx_n))))) (by decide +kernel) hG.2.2.2.1 hG.2.2.2.2.1 hS (hl.1.trans hml.symm) dX7_key_36 dX7_key_39 dX7_key_40 dX7_key_42 dX7_key_45 (fun x9 h9 => (htb9 x9 h9).elim) (Nat.le_of_ble_eq_true rfl) (Nat.le_of_ble_eq_true rfl) (Nat.le_of_ble_eq_true rfl) (Nat.le_of_ble_eq_true rfl) hlocks (fun t h1 h2 h3 => ⟨(), trivial, ⟨rfl, gB_thr h1 h3 hP hK hD⟩, va_F_thr hS h2 h3⟩) hS.2.2 (Nat.le_of_ble_eq_true rfl) (Nat.le_of_ble_eq_true rfl)

set_option maxHeartbeats 4000000 in
set_option maxRecDepth 100000 in
/-- the class throws, tweak: b1 -/
theorem x_X7_tweak_b1 (l : Launch) (hl0 : l.stackTraces = false) (dC : Nat → ClassId) (dI : Nat → Nat → Nat) (cI : ClassId) (tS : Nat) (sz : Nat) (x : Nat) (bf : Nat) (kb : Nat) (to : Nat) (ro : Nat) (fw : Nat) (sw : Nat) (na : Nat) (wo : Nat) (bc : Nat) (bn : Nat) (hb : bn ≤ 64) (hbad : 32 < bn) : vx_Met l yX7_tweak wsX7_tweak ({ frames := 6, cells := 1, slots := 6, locals := 90 }) (gPf dC dI cI tS [.ref x] [(x, .inr (6, [.ref bf, .ref kb, .ref to, .ref ro, .ref fw, .ref sw, .ref na, .ref wo])), (bf, .inr (1, [.ref bc, .int (nI bn)]))] sz) (va_Qi (fun (_ : Int32) (_ : Unit) => False) (fun _ _ => True) (va_A [(x, .inr (6, [.ref bf, .ref kb, .ref to, .ref ro, .ref fw, .ref sw, .ref na, .ref wo])), (bf, .inr (1, [.ref bc, .int (nI bn)]))] sz)) (vx_X (fun _u : Unit => True) (fun E9 _u t => E9 = "java/lang/IllegalArgumentException" ∧ gB dC dI cI (va_A [(x, .inr (6, [.ref bf, .ref kb, .ref to, .ref ro, .ref fw, .ref sw, .ref na, .ref wo])), (bf, .inr (1, [.ref bc, .int (nI bn)]))] sz) [(x, .inr (6, [.ref bf, .ref kb, .ref to, .ref ro, .ref fw, .ref sw, .ref na, .ref wo])), (bf, .inr (1, [.ref bc, .int (nI bn)]))] t) (va_A [(x, .inr (6, [.ref bf, .ref kb, .ref to, .ref ro, .ref fw, .ref sw, .ref na, .ref wo])), (bf, .inr (1, [.ref bc, .int (nI bn)]))] sz)) 1 6 (va_A [(x, .inr (6, [.ref bf, .ref kb, .ref to, .ref ro, .ref fw, .ref sw, .ref na, .ref wo])), (bf, .inr (1, [.ref bc, .int (nI bn)]))] sz) := by
  refine vx_ofW (cc := cX7_tweak) (maxL := 1) (ret := (some .int)) (by decide) rfl ?_
  intro p e s m args below meth c s₁ B9 hml htb9 hv
  obtain ⟨rfl, hsz, ⟨hP, hK, hD0⟩, hG⟩ := hv
  have hx := B9.exec
  have hb := B9.bytes
  have hr := B9.returns
  have hts := atoms_spec (ws := wsX7_tweak) B9.pre
  have hown : s.vm.findClass RX7 = some m.cls := findClass_of_methodNamed B9.named
  have hlocks := B9.notSynchronized
  subst hsz
  have hD := hD0.self (sz := s.heap.size)
  generalize hAe : va_A [(x, .inr (6, [.ref bf, .ref kb, .ref to, .ref ro, .ref fw, .ref sw, .ref na, .ref wo])), (bf, .inr (1, [.ref bc, .int (nI bn)]))] s.heap.size = A at hD hG ⊢
  have hE := hG.1
  have hA : ∀ q : Nat, s.heap.size ≤ q → A q := fun q h => by rw [← hAe]; exact Or.inr h
  have hS : va_S A s.heap s.heap [] := va_S.rf
  have hl := lv_entry ([.ref x]) (n := 1) (Nat.le_of_ble_eq_true rfl)
  rw [lg_entry_eq]
  generalize (lg_sl ([.ref x]) ++ List.replicate (1 - (lg_sl ([.ref x])).length) Slot.unset).toArray = ls at hl ⊢
  have hl : lv_has ls 1 [(0, .ref x)] := hl
  refine lv_aload_n hx hb dX7_tweak_0 rfl (lv_at hl 0 rfl) ?_
  refine gv_get (own := RX7) (D := (dC, dI)) (ci := 6) (C := RX7) (T := TX7) (N := 8) (v := .ref bf) hx hb hts (by decide +kernel) hown hK hP 0 rfl rfl 0 (by decide) (hts (.fieldLink RX7 10 "NumeralCipher" "buffer" "LNumeralCipher$Bytes;") (by decide +kernel)) rfl rfl dX7_tweak_1 ?_
  refine gv_getN (own := RX7) (D := (dC, dI)) (ci := 1) (C := RX1) (T := TX1) (N := 2) (v := .int (nI bn)) hx hb hts (by decide +kernel) hown hK hP 1 rfl rfl 1 (by decide) (hE.nest (.fieldLinkNest "NumeralCipher" 54 "NumeralCipher$Bytes" "size" "I" "NumeralCipher") (by decide +kernel)) rfl rfl dX7_tweak_4 ?_
  refine lv_bipush (v := nI 32) hx hb dX7_tweak_7 (by decide) ?_
  refine gv_icmp_le (tgt := 22) hx hb dX7_tweak_9 (by decide) (by omega) (by omega) (fun c_9 => ?_) (fun c_9 => ?_)
  ·
    exact absurd c_9 (by omega)
  ·
    obtain ⟨sa9, hsa9⟩ := hG.2.2.1 (98, "a tweak has at most 32 bytes") (by decide +kernel)
    exact vx_throwS (A := A) (own := RX7) (cls := "java/lang/IllegalArgumentException") (text := "a tweak has at most 32 bytes") (names := ["java/lang/RuntimeException", "java/lang/Exception"]) (ik := 61) (is := 98) (ic := 65) hx hb hl0 hown (by decide +kernel) (by decide +kernel) (hts (.classLink RX7 61 "java/lang/IllegalArgumentException") (by decide +kernel)) (hts (.initialized "java/lang/IllegalArgumentException") (by decide +kernel)) hsa9 (vx_hat (B := [.castable "java/lang/IllegalArgumentException" "java/lang/IllegalArgumentException", .declares ⟨"java/lang/RuntimeException", "<init>", "(Ljava/lang/String;)V"⟩, .declares ⟨"java/lang/Exception", "<init>", "(Ljava/lang/String;)V"⟩, .declares ⟨"java/lang/Throwable", "<init>", "(Ljava/lang/String;)V"⟩]) (fun w9 hw9 => hts w9 (List.mem_cons_of_mem _ (List.mem_append_right _ hw9))) (by decide +kernel) (vx_c (hG.2.cast "java/lang/IllegalArgumentException" (by decide +kernel)) (vx_c (hG.2.decl _ (by decide +kernel)) (vx_c (hG.2.decl _ (by decide +kernel)) (vx_c (hG.2.decl _ (by decide +kernel)) vx_n))))) (by decide +kernel) hG.2.2.2.1 hG.2.2.2.2.1 hS (hl.1.trans hml.symm) dX7_tweak_12 dX7_tweak_15 dX7_tweak_16 dX7_tweak_18 dX7_tweak_21 (fun x9 h9 => (htb9 x9 h9).elim) (Nat.le_of_ble_eq_true rfl) (Nat.le_of_ble_eq_true rfl) (Nat.le_of_ble_eq_true rfl) (Nat.le_of_ble_eq_true rfl) hlocks (fun t h1 h2 h3 => ⟨(), trivial, ⟨rfl, gB_thr h1 h3 hP hK hD⟩, va_F_thr hS h2 h3⟩) hS.2.2 (Nat.le_of_ble_eq_true rfl) (Nat.le_of_ble_eq_true rfl)

set_option maxHeartbeats 4000000 in
set_option maxRecDepth 100000 in
/-- the class throws, block: b1 -/
theorem x_X7_block_b1 (l : Launch) (hl0 : l.stackTraces = false) (dC : Nat → ClassId) (dI : Nat → Nat → Nat) (cI : ClassId) (tS : Nat) (sz : Nat) (x : Nat) (bf : Nat) (kb : Nat) (to : Nat) (ro : Nat) (fw : Nat) (sw : Nat) (na : Nat) (wo : Nat) (bc : Nat) (bn : Nat) (hb : bn ≤ 64) (hbad : bn ≠ 16) : vx_Met l yX7_block wsX7_block ({ frames := 6, cells := 1, slots := 6, locals := 90 }) (gPf dC dI cI tS [.ref x] [(x, .inr (6, [.ref bf, .ref kb, .ref to, .ref ro, .ref fw, .ref sw, .ref na, .ref wo])), (bf, .inr (1, [.ref bc, .int (nI bn)]))] sz) (va_Qv (fun _ : Unit => False) (fun _ _ => True) (va_A [(x, .inr (6, [.ref bf, .ref kb, .ref to, .ref ro, .ref fw, .ref sw, .ref na, .ref wo])), (bf, .inr (1, [.ref bc, .int (nI bn)]))] sz)) (vx_X (fun _u : Unit => True) (fun E9 _u t => E9 = "java/lang/IllegalArgumentException" ∧ gB dC dI cI (va_A [(x, .inr (6, [.ref bf, .ref kb, .ref to, .ref ro, .ref fw, .ref sw, .ref na, .ref wo])), (bf, .inr (1, [.ref bc, .int (nI bn)]))] sz) [(x, .inr (6, [.ref bf, .ref kb, .ref to, .ref ro, .ref fw, .ref sw, .ref na, .ref wo])), (bf, .inr (1, [.ref bc, .int (nI bn)]))] t) (va_A [(x, .inr (6, [.ref bf, .ref kb, .ref to, .ref ro, .ref fw, .ref sw, .ref na, .ref wo])), (bf, .inr (1, [.ref bc, .int (nI bn)]))] sz)) 1 6 (va_A [(x, .inr (6, [.ref bf, .ref kb, .ref to, .ref ro, .ref fw, .ref sw, .ref na, .ref wo])), (bf, .inr (1, [.ref bc, .int (nI bn)]))] sz) := by
  refine vx_ofW (cc := cX7_block) (maxL := 2) (ret := none) (by decide) rfl ?_
  intro p e s m args below meth c s₁ B9 hml htb9 hv
  obtain ⟨rfl, hsz, ⟨hP, hK, hD0⟩, hG⟩ := hv
  have hx := B9.exec
  have hb := B9.bytes
  have hr := B9.returns
  have hts := atoms_spec (ws := wsX7_block) B9.pre
  have hown : s.vm.findClass RX7 = some m.cls := findClass_of_methodNamed B9.named
  have hlocks := B9.notSynchronized
  subst hsz
  have hD := hD0.self (sz := s.heap.size)
  generalize hAe : va_A [(x, .inr (6, [.ref bf, .ref kb, .ref to, .ref ro, .ref fw, .ref sw, .ref na, .ref wo])), (bf, .inr (1, [.ref bc, .int (nI bn)]))] s.heap.size = A at hD hG ⊢
  have hE := hG.1
  have hA : ∀ q : Nat, s.heap.size ≤ q → A q := fun q h => by rw [← hAe]; exact Or.inr h
  have hS : va_S A s.heap s.heap [] := va_S.rf
  have hl := lv_entry ([.ref x]) (n := 2) (Nat.le_of_ble_eq_true rfl)
  rw [lg_entry_eq]
  generalize (lg_sl ([.ref x]) ++ List.replicate (2 - (lg_sl ([.ref x])).length) Slot.unset).toArray = ls at hl ⊢
  have hl : lv_has ls 2 [(0, .ref x)] := hl
  refine lv_aload_n hx hb dX7_block_0 rfl (lv_at hl 0 rfl) ?_
  refine gv_get (own := RX7) (D := (dC, dI)) (ci := 6) (C := RX7) (T := TX7) (N := 8) (v := .ref bf) hx hb hts (by decide +kernel) hown hK hP 0 rfl rfl 0 (by decide) (hts (.fieldLink RX7 10 "NumeralCipher" "buffer" "LNumeralCipher$Bytes;") (by decide +kernel)) rfl rfl dX7_block_1 ?_
  refine gv_getN (own := RX7) (D := (dC, dI)) (ci := 1) (C := RX1) (T := TX1) (N := 2) (v := .int (nI bn)) hx hb hts (by decide +kernel) hown hK hP 1 rfl rfl 1 (by decide) (hE.nest (.fieldLinkNest "NumeralCipher" 54 "NumeralCipher$Bytes" "size" "I" "NumeralCipher") (by decide +kernel)) rfl rfl dX7_block_4 ?_
  refine lv_bipush (v := nI 16) hx hb dX7_block_7 (by decide) ?_
  refine gv_icmp_eq (tgt := 22) hx hb dX7_block_9 (by decide) (by omega) (by omega) (fun c_9 => ?_) (fun c_9 => ?_)
  ·
    exact absurd c_9 (by omega)
  ·
    obtain ⟨sa9, hsa9⟩ := hG.2.2.1 (100, "a block has 16 bytes") (by decide +kernel)
    exact vx_throwS (A := A) (own := RX7) (cls := "java/lang/IllegalArgumentException") (text := "a block has 16 bytes") (names := ["java/lang/RuntimeException", "java/lang/Exception"]) (ik := 61) (is := 100) (ic := 65) hx hb hl0 hown (by decide +kernel) (by decide +kernel) (hts (.classLink RX7 61 "java/lang/IllegalArgumentException") (by decide +kernel)) (hts (.initialized "java/lang/IllegalArgumentException") (by decide +kernel)) hsa9 (vx_hat (B := [.castable "java/lang/IllegalArgumentException" "java/lang/IllegalArgumentException", .declares ⟨"java/lang/RuntimeException", "<init>", "(Ljava/lang/String;)V"⟩, .declares ⟨"java/lang/Exception", "<init>", "(Ljava/lang/String;)V"⟩, .declares ⟨"java/lang/Throwable", "<init>", "(Ljava/lang/String;)V"⟩]) (fun w9 hw9 => hts w9 (List.mem_cons_of_mem _ (List.mem_append_right _ hw9))) (by decide +kernel) (vx_c (hG.2.cast "java/lang/IllegalArgumentException" (by decide +kernel)) (vx_c (hG.2.decl _ (by decide +kernel)) (vx_c (hG.2.decl _ (by decide +kernel)) (vx_c (hG.2.decl _ (by decide +kernel)) vx_n))))) (by decide +kernel) hG.2.2.2.1 hG.2.2.2.2.1 hS (hl.1.trans hml.symm) dX7_block_12 dX7_block_15 dX7_block_16 dX7_block_18 dX7_block_21 (fun x9 h9 => (htb9 x9 h9).elim) (Nat.le_of_ble_eq_true rfl) (Nat.le_of_ble_eq_true rfl) (Nat.le_of_ble_eq_true rfl) (Nat.le_of_ble_eq_true rfl) hlocks (fun t h1 h2 h3 => ⟨(), trivial, ⟨rfl, gB_thr h1 h3 hP hK hD⟩, va_F_thr hS h2 h3⟩) hS.2.2 (Nat.le_of_ble_eq_true rfl) (Nat.le_of_ble_eq_true rfl)

set_option maxHeartbeats 4000000 in
set_option maxRecDepth 100000 in
/-- the class throws, radix: b1 -/
theorem x_X7_radix_b1 (l : Launch) (hl0 : l.stackTraces = false) (dC : Nat → ClassId) (dI : Nat → Nat → Nat) (cI : ClassId) (tS : Nat) (sz : Nat) (x : Nat) (bf : Nat) (kb : Nat) (to : Nat) (ro : Nat) (fw : Nat) (sw : Nat) (na : Nat) (wo : Nat) (y : Int32) (hbad : y.toInt < 2 ∨ 65536 < y.toInt) : vx_Met l yX7_radix wsX7_radix ({ frames := 6, cells := 1, slots := 6, locals := 90 }) (gPf dC dI cI tS [.ref x, .int y] [(x, .inr (6, [.ref bf, .ref kb, .ref to, .ref ro, .ref fw, .ref sw, .ref na, .ref wo]))] sz) (va_Qi (fun (_ : Int32) (_ : Unit) => False) (fun _ _ => True) (va_A [(x, .inr (6, [.ref bf, .ref kb, .ref to, .ref ro, .ref fw, .ref sw, .ref na, .ref wo]))] sz)) (vx_X (fun _u : Unit => True) (fun E9 _u t => E9 = "java/lang/IllegalArgumentException" ∧ gB dC dI cI (va_A [(x, .inr (6, [.ref bf, .ref kb, .ref to, .ref ro, .ref fw, .ref sw, .ref na, .ref wo]))] sz) [(x, .inr (6, [.ref bf, .ref kb, .ref to, .ref ro, .ref fw, .ref sw, .ref na, .ref wo]))] t) (va_A [(x, .inr (6, [.ref bf, .ref kb, .ref to, .ref ro, .ref fw, .ref sw, .ref na, .ref wo]))] sz)) 1 6 (va_A [(x, .inr (6, [.ref bf, .ref kb, .ref to, .ref ro, .ref fw, .ref sw, .ref na, .ref wo]))] sz) := by
  refine vx_ofW (cc := cX7_radix) (maxL := 3) (ret := (some .int)) (by decide) rfl ?_
  intro p e s m args below meth c s₁ B9 hml htb9 hv
  obtain ⟨rfl, hsz, ⟨hP, hK, hD0⟩, hG⟩ := hv
  have hx := B9.exec
  have hb := B9.bytes
  have hr := B9.returns
  have hts := atoms_spec (ws := wsX7_radix) B9.pre
  have hown : s.vm.findClass RX7 = some m.cls := findClass_of_methodNamed B9.named
  have hlocks := B9.notSynchronized
  subst hsz
  have hD := hD0.self (sz := s.heap.size)
  generalize hAe : va_A [(x, .inr (6, [.ref bf, .ref kb, .ref to, .ref ro, .ref fw, .ref sw, .ref na, .ref wo]))] s.heap.size = A at hD hG ⊢
  have hE := hG.1
  have hA : ∀ q : Nat, s.heap.size ≤ q → A q := fun q h => by rw [← hAe]; exact Or.inr h
  have hS : va_S A s.heap s.heap [] := va_S.rf
  have hl := lv_entry ([.ref x, .int y]) (n := 3) (Nat.le_of_ble_eq_true rfl)
  rw [lg_entry_eq]
  generalize (lg_sl ([.ref x, .int y]) ++ List.replicate (3 - (lg_sl ([.ref x, .int y])).length) Slot.unset).toArray = ls at hl ⊢
  have hl : lv_has ls 3 [(0, .ref x), (1, .int y)] := hl
  refine lv_iload_n hx hb dX7_radix_0 rfl (lv_at hl 1 rfl) ?_
  refine lv_iconst (v := nI 2) hx hb dX7_radix_1 (by decide) ?_
  refine lv_icmp_lt (tgt := 11) hx hb dX7_radix_2 (by decide) (fun c_2 => ?_) (fun c_2 => ?_)
  ·
    have h8 : y.toInt < (2 : Int) := by rw [Int32.lt_iff_toInt_lt, nI_toInt (by omega)] at c_2; exact c_2
    obtain ⟨sa9, hsa9⟩ := hG.2.2.1 (111, "a radix is 2 .. 65536") (by decide +kernel)
    exact vx_throwS (A := A) (own := RX7) (cls := "java/lang/IllegalArgumentException") (text := "a radix is 2 .. 65536") (names := ["java/lang/RuntimeException", "java/lang/Exception"]) (ik := 61) (is := 111) (ic := 65) hx hb hl0 hown (by decide +kernel) (by decide +kernel) (hts (.classLink RX7 61 "java/lang/IllegalArgumentException") (by decide +kernel)) (hts (.initialized "java/lang/IllegalArgumentException") (by decide +kernel)) hsa9 (vx_hat (B := [.castable "java/lang/IllegalArgumentException" "java/lang/IllegalArgumentException", .declares ⟨"java/lang/RuntimeException", "<init>", "(Ljava/lang/String;)V"⟩, .declares ⟨"java/lang/Exception", "<init>", "(Ljava/lang/String;)V"⟩, .declares ⟨"java/lang/Throwable", "<init>", "(Ljava/lang/String;)V"⟩]) (fun w9 hw9 => hts w9 (List.mem_cons_of_mem _ (List.mem_append_right _ hw9))) (by decide +kernel) (vx_c (hG.2.cast "java/lang/IllegalArgumentException" (by decide +kernel)) (vx_c (hG.2.decl _ (by decide +kernel)) (vx_c (hG.2.decl _ (by decide +kernel)) (vx_c (hG.2.decl _ (by decide +kernel)) vx_n))))) (by decide +kernel) hG.2.2.2.1 hG.2.2.2.2.1 hS (hl.1.trans hml.symm) dX7_radix_11 dX7_radix_14 dX7_radix_15 dX7_radix_17 dX7_radix_20 (fun x9 h9 => (htb9 x9 h9).elim) (Nat.le_of_ble_eq_true rfl) (Nat.le_of_ble_eq_true rfl) (Nat.le_of_ble_eq_true rfl) (Nat.le_of_ble_eq_true rfl) hlocks (fun t h1 h2 h3 => ⟨(), trivial, ⟨rfl, gB_thr h1 h3 hP hK hD⟩, va_F_thr hS h2 h3⟩) hS.2.2 (Nat.le_of_ble_eq_true rfl) (Nat.le_of_ble_eq_true rfl)
  ·
    have h8 : ¬ y.toInt < (2 : Int) := by rw [Int32.lt_iff_toInt_lt, nI_toInt (by omega)] at c_2; exact c_2
    refine lv_iload_n hx hb dX7_radix_5 rfl (lv_at hl 1 rfl) ?_
    refine lv_ldc (own := RX7) (v := (65536 : Int32)) hx hb hown (hts (.constant RX7 110 (65536)) (by decide +kernel)) dX7_radix_6 ?_
    refine gv_top (y := nI 65536) (by decide +kernel) ?_
    refine lv_icmp_le (tgt := 21) hx hb dX7_radix_8 (by decide) (fun c_8 => ?_) (fun c_8 => ?_)
    ·
      exact absurd (show y.toInt ≤ (65536 : Int) by rw [Int32.le_iff_toInt_le, nI_toInt (by omega)] at c_8; exact c_8) (by omega)
    ·
      obtain ⟨sa9, hsa9⟩ := hG.2.2.1 (111, "a radix is 2 .. 65536") (by decide +kernel)
      exact vx_throwS (A := A) (own := RX7) (cls := "java/lang/IllegalArgumentException") (text := "a radix is 2 .. 65536") (names := ["java/lang/RuntimeException", "java/lang/Exception"]) (ik := 61) (is := 111) (ic := 65) hx hb hl0 hown (by decide +kernel) (by decide +kernel) (hts (.classLink RX7 61 "java/lang/IllegalArgumentException") (by decide +kernel)) (hts (.initialized "java/lang/IllegalArgumentException") (by decide +kernel)) hsa9 (vx_hat (B := [.castable "java/lang/IllegalArgumentException" "java/lang/IllegalArgumentException", .declares ⟨"java/lang/RuntimeException", "<init>", "(Ljava/lang/String;)V"⟩, .declares ⟨"java/lang/Exception", "<init>", "(Ljava/lang/String;)V"⟩, .declares ⟨"java/lang/Throwable", "<init>", "(Ljava/lang/String;)V"⟩]) (fun w9 hw9 => hts w9 (List.mem_cons_of_mem _ (List.mem_append_right _ hw9))) (by decide +kernel) (vx_c (hG.2.cast "java/lang/IllegalArgumentException" (by decide +kernel)) (vx_c (hG.2.decl _ (by decide +kernel)) (vx_c (hG.2.decl _ (by decide +kernel)) (vx_c (hG.2.decl _ (by decide +kernel)) vx_n))))) (by decide +kernel) hG.2.2.2.1 hG.2.2.2.2.1 hS (hl.1.trans hml.symm) dX7_radix_11 dX7_radix_14 dX7_radix_15 dX7_radix_17 dX7_radix_20 (fun x9 h9 => (htb9 x9 h9).elim) (Nat.le_of_ble_eq_true rfl) (Nat.le_of_ble_eq_true rfl) (Nat.le_of_ble_eq_true rfl) (Nat.le_of_ble_eq_true rfl) hlocks (fun t h1 h2 h3 => ⟨(), trivial, ⟨rfl, gB_thr h1 h3 hP hK hD⟩, va_F_thr hS h2 h3⟩) hS.2.2 (Nat.le_of_ble_eq_true rfl) (Nat.le_of_ble_eq_true rfl)

set_option maxHeartbeats 4000000 in
set_option maxRecDepth 100000 in
/-- the class throws, numeral: b1 -/
theorem x_X7_numeral_b1 (l : Launch) (hl0 : l.stackTraces = false) (dC : Nat → ClassId) (dI : Nat → Nat → Nat) (cI : ClassId) (tS : Nat) (sz : Nat) (x : Nat) (bf : Nat) (kb : Nat) (to : Nat) (ro : Nat) (fw : Nat) (sw : Nat) (na : Nat) (wo : Nat) (rc : Nat) (n : Nat) (bs : Nat) (y : Int32) (hb2 : bs ≤ 65536) (hbad : y.toInt < 0 ∨ (bs : Int) ≤ y.toInt) : vx_Met l yX7_numeral wsX7_numeral ({ frames := 6, cells := 1, slots := 6, locals := 90 }) (gPf dC dI cI tS [.ref x, .int y] [(x, .inr (6, [.ref bf, .ref kb, .ref to, .ref ro, .ref fw, .ref sw, .ref na, .ref wo])), (ro, .inr (4, [.ref rc, .int (nI n), .int (nI bs)]))] sz) (va_Qi (fun (_ : Int32) (_ : Unit) => False) (fun _ _ => True) (va_A [(x, .inr (6, [.ref bf, .ref kb, .ref to, .ref ro, .ref fw, .ref sw, .ref na, .ref wo])), (ro, .inr (4, [.ref rc, .int (nI n), .int (nI bs)]))] sz)) (vx_X (fun _u : Unit => True) (fun E9 _u t => E9 = "java/lang/IllegalArgumentException" ∧ gB dC dI cI (va_A [(x, .inr (6, [.ref bf, .ref kb, .ref to, .ref ro, .ref fw, .ref sw, .ref na, .ref wo])), (ro, .inr (4, [.ref rc, .int (nI n), .int (nI bs)]))] sz) [(x, .inr (6, [.ref bf, .ref kb, .ref to, .ref ro, .ref fw, .ref sw, .ref na, .ref wo])), (ro, .inr (4, [.ref rc, .int (nI n), .int (nI bs)]))] t) (va_A [(x, .inr (6, [.ref bf, .ref kb, .ref to, .ref ro, .ref fw, .ref sw, .ref na, .ref wo])), (ro, .inr (4, [.ref rc, .int (nI n), .int (nI bs)]))] sz)) 1 6 (va_A [(x, .inr (6, [.ref bf, .ref kb, .ref to, .ref ro, .ref fw, .ref sw, .ref na, .ref wo])), (ro, .inr (4, [.ref rc, .int (nI n), .int (nI bs)]))] sz) := by
  refine vx_ofW (cc := cX7_numeral) (maxL := 2) (ret := (some .int)) (by decide) rfl ?_
  intro p e s m args below meth c s₁ B9 hml htb9 hv
  obtain ⟨rfl, hsz, ⟨hP, hK, hD0⟩, hG⟩ := hv
  have hx := B9.exec
  have hb := B9.bytes
  have hr := B9.returns
  have hts := atoms_spec (ws := wsX7_numeral) B9.pre
  have hown : s.vm.findClass RX7 = some m.cls := findClass_of_methodNamed B9.named
  have hlocks := B9.notSynchronized
  subst hsz
  have hD := hD0.self (sz := s.heap.size)
  generalize hAe : va_A [(x, .inr (6, [.ref bf, .ref kb, .ref to, .ref ro, .ref fw, .ref sw, .ref na, .ref wo])), (ro, .inr (4, [.ref rc, .int (nI n), .int (nI bs)]))] s.heap.size = A at hD hG ⊢
  have hE := hG.1
  have hA : ∀ q : Nat, s.heap.size ≤ q → A q := fun q h => by rw [← hAe]; exact Or.inr h
  have hS : va_S A s.heap s.heap [] := va_S.rf
  have hl := lv_entry ([.ref x, .int y]) (n := 2) (Nat.le_of_ble_eq_true rfl)
  rw [lg_entry_eq]
  generalize (lg_sl ([.ref x, .int y]) ++ List.replicate (2 - (lg_sl ([.ref x, .int y])).length) Slot.unset).toArray = ls at hl ⊢
  have hl : lv_has ls 2 [(0, .ref x), (1, .int y)] := hl
  refine lv_aload_n hx hb dX7_numeral_0 rfl (lv_at hl 0 rfl) ?_
  refine gv_get (own := RX7) (D := (dC, dI)) (ci := 6) (C := RX7) (T := TX7) (N := 8) (v := .ref ro) hx hb hts (by decide +kernel) hown hK hP 0 rfl rfl 3 (by decide) (hts (.fieldLink RX7 25 "NumeralCipher" "row" "LNumeralCipher$Row;") (by decide +kernel)) rfl rfl dX7_numeral_1 ?_
  refine lv_iload_n hx hb dX7_numeral_4 rfl (lv_at hl 1 rfl) ?_
  have hPc := hP.sub (ws' := [(ro, .inr (4, [.ref rc, .int (nI n), .int (nI bs)]))]) [1] rfl
  have hDc := hD.sub (ws' := [(ro, .inr (4, [.ref rc, .int (nI n), .int (nI bs)]))]) [1] (by decide) rfl
  refine gv_callR (W.runV (As := [.int y]) (rest := []) ⟨hx, hb, hml, hown, hts⟩ (c_X4_isNumeral l dC dI cI s.heap.size ro rc n bs y (by omega)) (cwV 1 hts gX7_numeral_X4_isNumeral rfl rfl rfl (by decide +kernel) ⟨Nat.le_of_ble_eq_true rfl, Nat.le_of_ble_eq_true rfl⟩) ⟨gPc_blind, va_recv hK hPc (ci := 4) (q0 := 0) rfl rfl, gPc_pre hPc hK hDc⟩ rfl rfl hl.1 rfl (lv_room (Nat.le_of_ble_eq_true rfl)) dX7_numeral_5 ⟨Nat.zero_le _, Nat.zero_le _⟩) ?_
  clear hPc hDc
  refine gv_top (y := nI 0) (congrArg nI (if_neg (by omega))) ?_
  refine gv_if_ne (tgt := 21) hx hb dX7_numeral_8 (by decide) (by omega) (fun c_8 => ?_) (fun c_8 => ?_)
  ·
    exact absurd c_8 (by decide)
  ·
    obtain ⟨sa9, hsa9⟩ := hG.2.2.1 (121, "a numeral is 0 .. radix - 1") (by decide +kernel)
    exact vx_throwS (A := A) (own := RX7) (cls := "java/lang/IllegalArgumentException") (text := "a numeral is 0 .. radix - 1") (names := ["java/lang/RuntimeException", "java/lang/Exception"]) (ik := 61) (is := 121) (ic := 65) hx hb hl0 hown (by decide +kernel) (by decide +kernel) (hts (.classLink RX7 61 "java/lang/IllegalArgumentException") (by decide +kernel)) (hts (.initialized "java/lang/IllegalArgumentException") (by decide +kernel)) hsa9 (vx_hat (B := [.castable "java/lang/IllegalArgumentException" "java/lang/IllegalArgumentException", .declares ⟨"java/lang/RuntimeException", "<init>", "(Ljava/lang/String;)V"⟩, .declares ⟨"java/lang/Exception", "<init>", "(Ljava/lang/String;)V"⟩, .declares ⟨"java/lang/Throwable", "<init>", "(Ljava/lang/String;)V"⟩]) (fun w9 hw9 => hts w9 (List.mem_cons_of_mem _ (List.mem_append_left _ (List.mem_append_right _ hw9)))) (by decide +kernel) (vx_c (hG.2.cast "java/lang/IllegalArgumentException" (by decide +kernel)) (vx_c (hG.2.decl _ (by decide +kernel)) (vx_c (hG.2.decl _ (by decide +kernel)) (vx_c (hG.2.decl _ (by decide +kernel)) vx_n))))) (by decide +kernel) hG.2.2.2.1 hG.2.2.2.2.1 hS (hl.1.trans hml.symm) dX7_numeral_11 dX7_numeral_14 dX7_numeral_15 dX7_numeral_17 dX7_numeral_20 (fun x9 h9 => (htb9 x9 h9).elim) (Nat.le_of_ble_eq_true rfl) (Nat.le_of_ble_eq_true rfl) (Nat.le_of_ble_eq_true rfl) (Nat.le_of_ble_eq_true rfl) hlocks (fun t h1 h2 h3 => ⟨(), trivial, ⟨rfl, gB_thr h1 h3 hP hK hD⟩, va_F_thr hS h2 h3⟩) hS.2.2 (Nat.le_of_ble_eq_true rfl) (Nat.le_of_ble_eq_true rfl)

set_option maxHeartbeats 4000000 in
set_option maxRecDepth 100000 in
/-- the class throws, numeral: b2 -/
theorem x_X7_numeral_b2 (l : Launch) (hl0 : l.stackTraces = false) (dC : Nat → ClassId) (dI : Nat → Nat → Nat) (cI : ClassId) (tS : Nat) (sz : Nat) (x : Nat) (bf : Nat) (kb : Nat) (to : Nat) (ro : Nat) (fw : Nat) (sw : Nat) (na : Nat) (wo : Nat) (rc : Nat) (n : Nat) (bs : Nat) (v : Nat) (hv : v < bs) (hb2 : bs ≤ 65536) (hn : n = 64) : vx_Met l yX7_numeral wsX7_numeral ({ frames := 6, cells := 1, slots := 6, locals := 90 }) (gPf dC dI cI tS [.ref x, .int (nI v)] [(x, .inr (6, [.ref bf, .ref kb, .ref to, .ref ro, .ref fw, .ref sw, .ref na, .ref wo])), (ro, .inr (4, [.ref rc, .int (nI n), .int (nI bs)]))] sz) (va_Qi (fun (_ : Int32) (_ : Unit) => False) (fun _ _ => True) (va_A [(x, .inr (6, [.ref bf, .ref kb, .ref to, .ref ro, .ref fw, .ref sw, .ref na, .ref wo])), (ro, .inr (4, [.ref rc, .int (nI n), .int (nI bs)]))] sz)) (vx_X (fun _u : Unit => True) (fun E9 _u t => E9 = "java/lang/UnsupportedOperationException" ∧ gB dC dI cI (va_A [(x, .inr (6, [.ref bf, .ref kb, .ref to, .ref ro, .ref fw, .ref sw, .ref na, .ref wo])), (ro, .inr (4, [.ref rc, .int (nI n), .int (nI bs)]))] sz) [(x, .inr (6, [.ref bf, .ref kb, .ref to, .ref ro, .ref fw, .ref sw, .ref na, .ref wo])), (ro, .inr (4, [.ref rc, .int (nI n), .int (nI bs)]))] t) (va_A [(x, .inr (6, [.ref bf, .ref kb, .ref to, .ref ro, .ref fw, .ref sw, .ref na, .ref wo])), (ro, .inr (4, [.ref rc, .int (nI n), .int (nI bs)]))] sz)) 1 6 (va_A [(x, .inr (6, [.ref bf, .ref kb, .ref to, .ref ro, .ref fw, .ref sw, .ref na, .ref wo])), (ro, .inr (4, [.ref rc, .int (nI n), .int (nI bs)]))] sz) := by
  refine vx_ofW (cc := cX7_numeral) (maxL := 2) (ret := (some .int)) (by decide) rfl ?_
  intro p e s m args below meth c s₁ B9 hml htb9 hv
  obtain ⟨rfl, hsz, ⟨hP, hK, hD0⟩, hG⟩ := hv
  have hx := B9.exec
  have hb := B9.bytes
  have hr := B9.returns
  have hts := atoms_spec (ws := wsX7_numeral) B9.pre
  have hown : s.vm.findClass RX7 = some m.cls := findClass_of_methodNamed B9.named
  have hlocks := B9.notSynchronized
  subst hsz
  have hD := hD0.self (sz := s.heap.size)
  generalize hAe : va_A [(x, .inr (6, [.ref bf, .ref kb, .ref to, .ref ro, .ref fw, .ref sw, .ref na, .ref wo])), (ro, .inr (4, [.ref rc, .int (nI n), .int (nI bs)]))] s.heap.size = A at hD hG ⊢
  have hE := hG.1
  have hA : ∀ q : Nat, s.heap.size ≤ q → A q := fun q h => by rw [← hAe]; exact Or.inr h
  have hS : va_S A s.heap s.heap [] := va_S.rf
  have hl := lv_entry ([.ref x, .int (nI v)]) (n := 2) (Nat.le_of_ble_eq_true rfl)
  rw [lg_entry_eq]
  generalize (lg_sl ([.ref x, .int (nI v)]) ++ List.replicate (2 - (lg_sl ([.ref x, .int (nI v)])).length) Slot.unset).toArray = ls at hl ⊢
  have hl : lv_has ls 2 [(0, .ref x), (1, .int (nI v))] := hl
  refine lv_aload_n hx hb dX7_numeral_0 rfl (lv_at hl 0 rfl) ?_
  refine gv_get (own := RX7) (D := (dC, dI)) (ci := 6) (C := RX7) (T := TX7) (N := 8) (v := .ref ro) hx hb hts (by decide +kernel) hown hK hP 0 rfl rfl 3 (by decide) (hts (.fieldLink RX7 25 "NumeralCipher" "row" "LNumeralCipher$Row;") (by decide +kernel)) rfl rfl dX7_numeral_1 ?_
  refine lv_iload_n hx hb dX7_numeral_4 rfl (lv_at hl 1 rfl) ?_
  have hPc := hP.sub (ws' := [(ro, .inr (4, [.ref rc, .int (nI n), .int (nI bs)]))]) [1] rfl
  have hDc := hD.sub (ws' := [(ro, .inr (4, [.ref rc, .int (nI n), .int (nI bs)]))]) [1] (by decide) rfl
  refine gv_callR (W.runV (As := [.int (nI v)]) (rest := []) ⟨hx, hb, hml, hown, hts⟩ (c_X4_isNumeral l dC dI cI s.heap.size ro rc n bs (nI v) (by omega)) (cwV 1 hts gX7_numeral_X4_isNumeral rfl rfl rfl (by decide +kernel) ⟨Nat.le_of_ble_eq_true rfl, Nat.le_of_ble_eq_true rfl⟩) ⟨gPc_blind, va_recv hK hPc (ci := 4) (q0 := 0) rfl rfl, gPc_pre hPc hK hDc⟩ rfl rfl hl.1 rfl (lv_room (Nat.le_of_ble_eq_true rfl)) dX7_numeral_5 ⟨Nat.zero_le _, Nat.zero_le _⟩) ?_
  clear hPc hDc
  refine gv_top (y := nI 1) (congrArg nI (if_pos (by rw [nI_toInt (by omega)]; omega))) ?_
  refine gv_if_ne (tgt := 21) hx hb dX7_numeral_8 (by decide) (by omega) (fun c_8 => ?_) (fun c_8 => ?_)
  ·
    refine lv_aload_n hx hb dX7_numeral_21 rfl (lv_at hl 0 rfl) ?_
    refine gv_get (own := RX7) (D := (dC, dI)) (ci := 6) (C := RX7) (T := TX7) (N := 8) (v := .ref ro) hx hb hts (by decide +kernel) hown hK hP 0 rfl rfl 3 (by decide) (hts (.fieldLink RX7 25 "NumeralCipher" "row" "LNumeralCipher$Row;") (by decide +kernel)) rfl rfl dX7_numeral_22 ?_
    refine gv_getN (own := RX7) (D := (dC, dI)) (ci := 4) (C := RX4) (T := TX4) (N := 3) (v := .int (nI n)) hx hb hts (by decide +kernel) hown hK hP 1 rfl rfl 1 (by decide) (hE.nest (.fieldLinkNest "NumeralCipher" 113 "NumeralCipher$Row" "size" "I" "NumeralCipher") (by decide +kernel)) rfl rfl dX7_numeral_25 ?_
    refine lv_bipush (v := nI 64) hx hb dX7_numeral_28 (by decide) ?_
    refine gv_icmp_lt (tgt := 43) hx hb dX7_numeral_30 (by decide) (by omega) (by omega) (fun c_30 => ?_) (fun c_30 => ?_)
    ·
      exact absurd c_30 (by omega)
    ·
      obtain ⟨sa9, hsa9⟩ := hG.2.2.1 (123, "the row has 64 numerals") (by decide +kernel)
      exact vx_throwS (A := A) (own := RX7) (cls := "java/lang/UnsupportedOperationException") (text := "the row has 64 numerals") (names := ["java/lang/RuntimeException", "java/lang/Exception"]) (ik := 68) (is := 123) (ic := 72) hx hb hl0 hown (by decide +kernel) (by decide +kernel) (hts (.classLink RX7 68 "java/lang/UnsupportedOperationException") (by decide +kernel)) (hts (.initialized "java/lang/UnsupportedOperationException") (by decide +kernel)) hsa9 (vx_hat (B := [.castable "java/lang/UnsupportedOperationException" "java/lang/UnsupportedOperationException", .declares ⟨"java/lang/RuntimeException", "<init>", "(Ljava/lang/String;)V"⟩, .declares ⟨"java/lang/Exception", "<init>", "(Ljava/lang/String;)V"⟩, .declares ⟨"java/lang/Throwable", "<init>", "(Ljava/lang/String;)V"⟩]) (fun w9 hw9 => hts w9 (List.mem_cons_of_mem _ (List.mem_append_right _ hw9))) (by decide +kernel) (vx_c (hG.2.cast "java/lang/UnsupportedOperationException" (by decide +kernel)) (vx_c (hG.2.decl _ (by decide +kernel)) (vx_c (hG.2.decl _ (by decide +kernel)) (vx_c (hG.2.decl _ (by decide +kernel)) vx_n))))) (by decide +kernel) hG.2.2.2.1 hG.2.2.2.2.1 hS (hl.1.trans hml.symm) dX7_numeral_33 dX7_numeral_36 dX7_numeral_37 dX7_numeral_39 dX7_numeral_42 (fun x9 h9 => (htb9 x9 h9).elim) (Nat.le_of_ble_eq_true rfl) (Nat.le_of_ble_eq_true rfl) (Nat.le_of_ble_eq_true rfl) (Nat.le_of_ble_eq_true rfl) hlocks (fun t h1 h2 h3 => ⟨(), trivial, ⟨rfl, gB_thr h1 h3 hP hK hD⟩, va_F_thr hS h2 h3⟩) hS.2.2 (Nat.le_of_ble_eq_true rfl) (Nat.le_of_ble_eq_true rfl)
  ·
    exact absurd c_8 (by decide)

set_option maxHeartbeats 4000000 in
set_option maxRecDepth 100000 in
/-- the class throws, cut: b1 -/
theorem x_X7_cut_b1 (l : Launch) (hl0 : l.stackTraces = false) (dC : Nat → ClassId) (dI : Nat → Nat → Nat) (cI : ClassId) (tS : Nat) (sz : Nat) (x : Nat) (bf : Nat) (kb : Nat) (to : Nat) (ro : Nat) (fw : Nat) (sw : Nat) (na : Nat) (wo : Nat) (rc : Nat) (n : Nat) (bs : Nat) (y : Int32) (hn : n ≤ 64) (hbad : y.toInt < 0 ∨ (n : Int) < y.toInt) : vx_Met l yX7_cut wsX7_cut ({ frames := 6, cells := 1, slots := 6, locals := 90 }) (gPf dC dI cI tS [.ref x, .int y] [(x, .inr (6, [.ref bf, .ref kb, .ref to, .ref ro, .ref fw, .ref sw, .ref na, .ref wo])), (ro, .inr (4, [.ref rc, .int (nI n), .int (nI bs)]))] sz) (va_Qv (fun _ : Unit => False) (fun _ _ => True) (va_A [(x, .inr (6, [.ref bf, .ref kb, .ref to, .ref ro, .ref fw, .ref sw, .ref na, .ref wo])), (ro, .inr (4, [.ref rc, .int (nI n), .int (nI bs)]))] sz)) (vx_X (fun _u : Unit => True) (fun E9 _u t => E9 = "java/lang/IllegalArgumentException" ∧ gB dC dI cI (va_A [(x, .inr (6, [.ref bf, .ref kb, .ref to, .ref ro, .ref fw, .ref sw, .ref na, .ref wo])), (ro, .inr (4, [.ref rc, .int (nI n), .int (nI bs)]))] sz) [(x, .inr (6, [.ref bf, .ref kb, .ref to, .ref ro, .ref fw, .ref sw, .ref na, .ref wo])), (ro, .inr (4, [.ref rc, .int (nI n), .int (nI bs)]))] t) (va_A [(x, .inr (6, [.ref bf, .ref kb, .ref to, .ref ro, .ref fw, .ref sw, .ref na, .ref wo])), (ro, .inr (4, [.ref rc, .int (nI n), .int (nI bs)]))] sz)) 1 6 (va_A [(x, .inr (6, [.ref bf, .ref kb, .ref to, .ref ro, .ref fw, .ref sw, .ref na, .ref wo])), (ro, .inr (4, [.ref rc, .int (nI n), .int (nI bs)]))] sz) := by
  refine vx_ofW (cc := cX7_cut) (maxL := 2) (ret := none) (by decide) rfl ?_
  intro p e s m args below meth c s₁ B9 hml htb9 hv
  obtain ⟨rfl, hsz, ⟨hP, hK, hD0⟩, hG⟩ := hv
  have hx := B9.exec
  have hb := B9.bytes
  have hr := B9.returns
  have hts := atoms_spec (ws := wsX7_cut) B9.pre
  have hown : s.vm.findClass RX7 = some m.cls := findClass_of_methodNamed B9.named
  have hlocks := B9.notSynchronized
  subst hsz
  have hD := hD0.self (sz := s.heap.size)
  generalize hAe : va_A [(x, .inr (6, [.ref bf, .ref kb, .ref to, .ref ro, .ref fw, .ref sw, .ref na, .ref wo])), (ro, .inr (4, [.ref rc, .int (nI n), .int (nI bs)]))] s.heap.size = A at hD hG ⊢
  have hE := hG.1
  have hA : ∀ q : Nat, s.heap.size ≤ q → A q := fun q h => by rw [← hAe]; exact Or.inr h
  have hS : va_S A s.heap s.heap [] := va_S.rf
  have hl := lv_entry ([.ref x, .int y]) (n := 2) (Nat.le_of_ble_eq_true rfl)
  rw [lg_entry_eq]
  generalize (lg_sl ([.ref x, .int y]) ++ List.replicate (2 - (lg_sl ([.ref x, .int y])).length) Slot.unset).toArray = ls at hl ⊢
  have hl : lv_has ls 2 [(0, .ref x), (1, .int y)] := hl
  refine lv_iload_n hx hb dX7_cut_0 rfl (lv_at hl 1 rfl) ?_
  refine lv_if_lt (tgt := 15) hx hb dX7_cut_1 (by decide) (fun c_1 => ?_) (fun c_1 => ?_)
  ·
    have h8 : y.toInt < 0 := by rw [Int32.lt_iff_toInt_lt, Int32.toInt_zero] at c_1; exact c_1
    obtain ⟨sa9, hsa9⟩ := hG.2.2.1 (126, "the row has not so many numerals") (by decide +kernel)
    exact vx_throwS (A := A) (own := RX7) (cls := "java/lang/IllegalArgumentException") (text := "the row has not so many numerals") (names := ["java/lang/RuntimeException", "java/lang/Exception"]) (ik := 61) (is := 126) (ic := 65) hx hb hl0 hown (by decide +kernel) (by decide +kernel) (hts (.classLink RX7 61 "java/lang/IllegalArgumentException") (by decide +kernel)) (hts (.initialized "java/lang/IllegalArgumentException") (by decide +kernel)) hsa9 (vx_hat (B := [.castable "java/lang/IllegalArgumentException" "java/lang/IllegalArgumentException", .declares ⟨"java/lang/RuntimeException", "<init>", "(Ljava/lang/String;)V"⟩, .declares ⟨"java/lang/Exception", "<init>", "(Ljava/lang/String;)V"⟩, .declares ⟨"java/lang/Throwable", "<init>", "(Ljava/lang/String;)V"⟩]) (fun w9 hw9 => hts w9 (List.mem_cons_of_mem _ (List.mem_append_right _ hw9))) (by decide +kernel) (vx_c (hG.2.cast "java/lang/IllegalArgumentException" (by decide +kernel)) (vx_c (hG.2.decl _ (by decide +kernel)) (vx_c (hG.2.decl _ (by decide +kernel)) (vx_c (hG.2.decl _ (by decide +kernel)) vx_n))))) (by decide +kernel) hG.2.2.2.1 hG.2.2.2.2.1 hS (hl.1.trans hml.symm) dX7_cut_15 dX7_cut_18 dX7_cut_19 dX7_cut_21 dX7_cut_24 (fun x9 h9 => (htb9 x9 h9).elim) (Nat.le_of_ble_eq_true rfl) (Nat.le_of_ble_eq_true rfl) (Nat.le_of_ble_eq_true rfl) (Nat.le_of_ble_eq_true rfl) hlocks (fun t h1 h2 h3 => ⟨(), trivial, ⟨rfl, gB_thr h1 h3 hP hK hD⟩, va_F_thr hS h2 h3⟩) hS.2.2 (Nat.le_of_ble_eq_true rfl) (Nat.le_of_ble_eq_true rfl)
  ·
    have h8 : ¬ y.toInt < 0 := by rw [Int32.lt_iff_toInt_lt, Int32.toInt_zero] at c_1; exact c_1
    refine lv_iload_n hx hb dX7_cut_4 rfl (lv_at hl 1 rfl) ?_
    refine lv_aload_n hx hb dX7_cut_5 rfl (lv_at hl 0 rfl) ?_
    refine gv_get (own := RX7) (D := (dC, dI)) (ci := 6) (C := RX7) (T := TX7) (N := 8) (v := .ref ro) hx hb hts (by decide +kernel) hown hK hP 0 rfl rfl 3 (by decide) (hts (.fieldLink RX7 25 "NumeralCipher" "row" "LNumeralCipher$Row;") (by decide +kernel)) rfl rfl dX7_cut_6 ?_
    refine gv_getN (own := RX7) (D := (dC, dI)) (ci := 4) (C := RX4) (T := TX4) (N := 3) (v := .int (nI n)) hx hb hts (by decide +kernel) hown hK hP 1 rfl rfl 1 (by decide) (hE.nest (.fieldLinkNest "NumeralCipher" 113 "NumeralCipher$Row" "size" "I" "NumeralCipher") (by decide +kernel)) rfl rfl dX7_cut_9 ?_
    refine lv_icmp_le (tgt := 25) hx hb dX7_cut_12 (by decide) (fun c_12 => ?_) (fun c_12 => ?_)
    ·
      exact absurd (show y.toInt ≤ (n : Int) by rw [Int32.le_iff_toInt_le, nI_toInt (by omega)] at c_12; exact c_12) (by omega)
    ·
      obtain ⟨sa9, hsa9⟩ := hG.2.2.1 (126, "the row has not so many numerals") (by decide +kernel)
      exact vx_throwS (A := A) (own := RX7) (cls := "java/lang/IllegalArgumentException") (text := "the row has not so many numerals") (names := ["java/lang/RuntimeException", "java/lang/Exception"]) (ik := 61) (is := 126) (ic := 65) hx hb hl0 hown (by decide +kernel) (by decide +kernel) (hts (.classLink RX7 61 "java/lang/IllegalArgumentException") (by decide +kernel)) (hts (.initialized "java/lang/IllegalArgumentException") (by decide +kernel)) hsa9 (vx_hat (B := [.castable "java/lang/IllegalArgumentException" "java/lang/IllegalArgumentException", .declares ⟨"java/lang/RuntimeException", "<init>", "(Ljava/lang/String;)V"⟩, .declares ⟨"java/lang/Exception", "<init>", "(Ljava/lang/String;)V"⟩, .declares ⟨"java/lang/Throwable", "<init>", "(Ljava/lang/String;)V"⟩]) (fun w9 hw9 => hts w9 (List.mem_cons_of_mem _ (List.mem_append_right _ hw9))) (by decide +kernel) (vx_c (hG.2.cast "java/lang/IllegalArgumentException" (by decide +kernel)) (vx_c (hG.2.decl _ (by decide +kernel)) (vx_c (hG.2.decl _ (by decide +kernel)) (vx_c (hG.2.decl _ (by decide +kernel)) vx_n))))) (by decide +kernel) hG.2.2.2.1 hG.2.2.2.2.1 hS (hl.1.trans hml.symm) dX7_cut_15 dX7_cut_18 dX7_cut_19 dX7_cut_21 dX7_cut_24 (fun x9 h9 => (htb9 x9 h9).elim) (Nat.le_of_ble_eq_true rfl) (Nat.le_of_ble_eq_true rfl) (Nat.le_of_ble_eq_true rfl) (Nat.le_of_ble_eq_true rfl) hlocks (fun t h1 h2 h3 => ⟨(), trivial, ⟨rfl, gB_thr h1 h3 hP hK hD⟩, va_F_thr hS h2 h3⟩) hS.2.2 (Nat.le_of_ble_eq_true rfl) (Nat.le_of_ble_eq_true rfl)

set_option maxHeartbeats 4000000 in
set_option maxRecDepth 100000 in
/-- the class throws, set: b1 -/
theorem x_X7_set_b1 (l : Launch) (hl0 : l.stackTraces = false) (dC : Nat → ClassId) (dI : Nat → Nat → Nat) (cI : ClassId) (tS : Nat) (sz : Nat) (x : Nat) (bf : Nat) (kb : Nat) (to : Nat) (ro : Nat) (fw : Nat) (sw : Nat) (na : Nat) (wo : Nat) (rc : Nat) (n : Nat) (bs : Nat) (y : Int32) (y2 : Int32) (hn : n ≤ 64) (hbad : y.toInt < 0 ∨ (n : Int) ≤ y.toInt) : vx_Met l yX7_set wsX7_set ({ frames := 6, cells := 1, slots := 6, locals := 90 }) (gPf dC dI cI tS [.ref x, .int y, .int y2] [(x, .inr (6, [.ref bf, .ref kb, .ref to, .ref ro, .ref fw, .ref sw, .ref na, .ref wo])), (ro, .inr (4, [.ref rc, .int (nI n), .int (nI bs)]))] sz) (va_Qi (fun (_ : Int32) (_ : Unit) => False) (fun _ _ => True) (va_A [(x, .inr (6, [.ref bf, .ref kb, .ref to, .ref ro, .ref fw, .ref sw, .ref na, .ref wo])), (ro, .inr (4, [.ref rc, .int (nI n), .int (nI bs)]))] sz)) (vx_X (fun _u : Unit => True) (fun E9 _u t => E9 = "java/lang/IndexOutOfBoundsException" ∧ gB dC dI cI (va_A [(x, .inr (6, [.ref bf, .ref kb, .ref to, .ref ro, .ref fw, .ref sw, .ref na, .ref wo])), (ro, .inr (4, [.ref rc, .int (nI n), .int (nI bs)]))] sz) [(x, .inr (6, [.ref bf, .ref kb, .ref to, .ref ro, .ref fw, .ref sw, .ref na, .ref wo])), (ro, .inr (4, [.ref rc, .int (nI n), .int (nI bs)]))] t) (va_A [(x, .inr (6, [.ref bf, .ref kb, .ref to, .ref ro, .ref fw, .ref sw, .ref na, .ref wo])), (ro, .inr (4, [.ref rc, .int (nI n), .int (nI bs)]))] sz)) 1 6 (va_A [(x, .inr (6, [.ref bf, .ref kb, .ref to, .ref ro, .ref fw, .ref sw, .ref na, .ref wo])), (ro, .inr (4, [.ref rc, .int (nI n), .int (nI bs)]))] sz) := by
  refine vx_ofW (cc := cX7_set) (maxL := 4) (ret := (some .int)) (by decide) rfl ?_
  intro p e s m args below meth c s₁ B9 hml htb9 hv
  obtain ⟨rfl, hsz, ⟨hP, hK, hD0⟩, hG⟩ := hv
  have hx := B9.exec
  have hb := B9.bytes
  have hr := B9.returns
  have hts := atoms_spec (ws := wsX7_set) B9.pre
  have hown : s.vm.findClass RX7 = some m.cls := findClass_of_methodNamed B9.named
  have hlocks := B9.notSynchronized
  subst hsz
  have hD := hD0.self (sz := s.heap.size)
  generalize hAe : va_A [(x, .inr (6, [.ref bf, .ref kb, .ref to, .ref ro, .ref fw, .ref sw, .ref na, .ref wo])), (ro, .inr (4, [.ref rc, .int (nI n), .int (nI bs)]))] s.heap.size = A at hD hG ⊢
  have hE := hG.1
  have hA : ∀ q : Nat, s.heap.size ≤ q → A q := fun q h => by rw [← hAe]; exact Or.inr h
  have hS : va_S A s.heap s.heap [] := va_S.rf
  have hl := lv_entry ([.ref x, .int y, .int y2]) (n := 4) (Nat.le_of_ble_eq_true rfl)
  rw [lg_entry_eq]
  generalize (lg_sl ([.ref x, .int y, .int y2]) ++ List.replicate (4 - (lg_sl ([.ref x, .int y, .int y2])).length) Slot.unset).toArray = ls at hl ⊢
  have hl : lv_has ls 4 [(0, .ref x), (1, .int y), (2, .int y2)] := hl
  refine lv_aload_n hx hb dX7_set_0 rfl (lv_at hl 0 rfl) ?_
  refine gv_get (own := RX7) (D := (dC, dI)) (ci := 6) (C := RX7) (T := TX7) (N := 8) (v := .ref ro) hx hb hts (by decide +kernel) hown hK hP 0 rfl rfl 3 (by decide) (hts (.fieldLink RX7 25 "NumeralCipher" "row" "LNumeralCipher$Row;") (by decide +kernel)) rfl rfl dX7_set_1 ?_
  refine lv_iload_n hx hb dX7_set_4 rfl (lv_at hl 1 rfl) ?_
  have hPc := hP.sub (ws' := [(ro, .inr (4, [.ref rc, .int (nI n), .int (nI bs)]))]) [1] rfl
  have hDc := hD.sub (ws' := [(ro, .inr (4, [.ref rc, .int (nI n), .int (nI bs)]))]) [1] (by decide) rfl
  refine gv_callR (W.runV (As := [.int y]) (rest := []) ⟨hx, hb, hml, hown, hts⟩ (c_X4_has l dC dI cI s.heap.size ro rc n bs y (by omega)) (cwV 1 hts gX7_set_X4_has rfl rfl rfl (by decide +kernel) ⟨Nat.le_of_ble_eq_true rfl, Nat.le_of_ble_eq_true rfl⟩) ⟨gPc_blind, va_recv hK hPc (ci := 4) (q0 := 0) rfl rfl, gPc_pre hPc hK hDc⟩ rfl rfl hl.1 rfl (lv_room (Nat.le_of_ble_eq_true rfl)) dX7_set_5 ⟨Nat.zero_le _, Nat.zero_le _⟩) ?_
  clear hPc hDc
  refine gv_top (y := nI 0) (congrArg nI (if_neg (by omega))) ?_
  refine gv_if_ne (tgt := 21) hx hb dX7_set_8 (by decide) (by omega) (fun c_8 => ?_) (fun c_8 => ?_)
  ·
    exact absurd c_8 (by decide)
  ·
    obtain ⟨sa9, hsa9⟩ := hG.2.2.1 (131, "the row has no such numeral") (by decide +kernel)
    exact vx_throwS (A := A) (own := RX7) (cls := "java/lang/IndexOutOfBoundsException") (text := "the row has no such numeral") (names := ["java/lang/RuntimeException", "java/lang/Exception"]) (ik := 78) (is := 131) (ic := 82) hx hb hl0 hown (by decide +kernel) (by decide +kernel) (hts (.classLink RX7 78 "java/lang/IndexOutOfBoundsException") (by decide +kernel)) (hts (.initialized "java/lang/IndexOutOfBoundsException") (by decide +kernel)) hsa9 (vx_hat (B := [.castable "java/lang/IndexOutOfBoundsException" "java/lang/IndexOutOfBoundsException", .declares ⟨"java/lang/RuntimeException", "<init>", "(Ljava/lang/String;)V"⟩, .declares ⟨"java/lang/Exception", "<init>", "(Ljava/lang/String;)V"⟩, .declares ⟨"java/lang/Throwable", "<init>", "(Ljava/lang/String;)V"⟩]) (fun w9 hw9 => hts w9 (List.mem_cons_of_mem _ (List.mem_append_left _ (List.mem_append_right _ hw9)))) (by decide +kernel) (vx_c (hG.2.cast "java/lang/IndexOutOfBoundsException" (by decide +kernel)) (vx_c (hG.2.decl _ (by decide +kernel)) (vx_c (hG.2.decl _ (by decide +kernel)) (vx_c (hG.2.decl _ (by decide +kernel)) vx_n))))) (by decide +kernel) hG.2.2.2.1 hG.2.2.2.2.1 hS (hl.1.trans hml.symm) dX7_set_11 dX7_set_14 dX7_set_15 dX7_set_17 dX7_set_20 (fun x9 h9 => (htb9 x9 h9).elim) (Nat.le_of_ble_eq_true rfl) (Nat.le_of_ble_eq_true rfl) (Nat.le_of_ble_eq_true rfl) (Nat.le_of_ble_eq_true rfl) hlocks (fun t h1 h2 h3 => ⟨(), trivial, ⟨rfl, gB_thr h1 h3 hP hK hD⟩, va_F_thr hS h2 h3⟩) hS.2.2 (Nat.le_of_ble_eq_true rfl) (Nat.le_of_ble_eq_true rfl)

set_option maxHeartbeats 4000000 in
set_option maxRecDepth 100000 in
/-- the class throws, set: b2 -/
theorem x_X7_set_b2 (l : Launch) (hl0 : l.stackTraces = false) (dC : Nat → ClassId) (dI : Nat → Nat → Nat) (cI : ClassId) (tS : Nat) (sz : Nat) (x : Nat) (bf : Nat) (kb : Nat) (to : Nat) (ro : Nat) (fw : Nat) (sw : Nat) (na : Nat) (wo : Nat) (rc : Nat) (n : Nat) (bs : Nat) (i : Nat) (y : Int32) (hi : i < n) (hn : n ≤ 64) (hb2 : bs ≤ 65536) (hbad : y.toInt < 0 ∨ (bs : Int) ≤ y.toInt) : vx_Met l yX7_set wsX7_set ({ frames := 6, cells := 1, slots := 6, locals := 90 }) (gPf dC dI cI tS [.ref x, .int (nI i), .int y] [(x, .inr (6, [.ref bf, .ref kb, .ref to, .ref ro, .ref fw, .ref sw, .ref na, .ref wo])), (ro, .inr (4, [.ref rc, .int (nI n), .int (nI bs)]))] sz) (va_Qi (fun (_ : Int32) (_ : Unit) => False) (fun _ _ => True) (va_A [(x, .inr (6, [.ref bf, .ref kb, .ref to, .ref ro, .ref fw, .ref sw, .ref na, .ref wo])), (ro, .inr (4, [.ref rc, .int (nI n), .int (nI bs)]))] sz)) (vx_X (fun _u : Unit => True) (fun E9 _u t => E9 = "java/lang/IllegalArgumentException" ∧ gB dC dI cI (va_A [(x, .inr (6, [.ref bf, .ref kb, .ref to, .ref ro, .ref fw, .ref sw, .ref na, .ref wo])), (ro, .inr (4, [.ref rc, .int (nI n), .int (nI bs)]))] sz) [(x, .inr (6, [.ref bf, .ref kb, .ref to, .ref ro, .ref fw, .ref sw, .ref na, .ref wo])), (ro, .inr (4, [.ref rc, .int (nI n), .int (nI bs)]))] t) (va_A [(x, .inr (6, [.ref bf, .ref kb, .ref to, .ref ro, .ref fw, .ref sw, .ref na, .ref wo])), (ro, .inr (4, [.ref rc, .int (nI n), .int (nI bs)]))] sz)) 1 6 (va_A [(x, .inr (6, [.ref bf, .ref kb, .ref to, .ref ro, .ref fw, .ref sw, .ref na, .ref wo])), (ro, .inr (4, [.ref rc, .int (nI n), .int (nI bs)]))] sz) := by
  refine vx_ofW (cc := cX7_set) (maxL := 4) (ret := (some .int)) (by decide) rfl ?_
  intro p e s m args below meth c s₁ B9 hml htb9 hv
  obtain ⟨rfl, hsz, ⟨hP, hK, hD0⟩, hG⟩ := hv
  have hx := B9.exec
  have hb := B9.bytes
  have hr := B9.returns
  have hts := atoms_spec (ws := wsX7_set) B9.pre
  have hown : s.vm.findClass RX7 = some m.cls := findClass_of_methodNamed B9.named
  have hlocks := B9.notSynchronized
  subst hsz
  have hD := hD0.self (sz := s.heap.size)
  generalize hAe : va_A [(x, .inr (6, [.ref bf, .ref kb, .ref to, .ref ro, .ref fw, .ref sw, .ref na, .ref wo])), (ro, .inr (4, [.ref rc, .int (nI n), .int (nI bs)]))] s.heap.size = A at hD hG ⊢
  have hE := hG.1
  have hA : ∀ q : Nat, s.heap.size ≤ q → A q := fun q h => by rw [← hAe]; exact Or.inr h
  have hS : va_S A s.heap s.heap [] := va_S.rf
  have hl := lv_entry ([.ref x, .int (nI i), .int y]) (n := 4) (Nat.le_of_ble_eq_true rfl)
  rw [lg_entry_eq]
  generalize (lg_sl ([.ref x, .int (nI i), .int y]) ++ List.replicate (4 - (lg_sl ([.ref x, .int (nI i), .int y])).length) Slot.unset).toArray = ls at hl ⊢
  have hl : lv_has ls 4 [(0, .ref x), (1, .int (nI i)), (2, .int y)] := hl
  refine lv_aload_n hx hb dX7_set_0 rfl (lv_at hl 0 rfl) ?_
  refine gv_get (own := RX7) (D := (dC, dI)) (ci := 6) (C := RX7) (T := TX7) (N := 8) (v := .ref ro) hx hb hts (by decide +kernel) hown hK hP 0 rfl rfl 3 (by decide) (hts (.fieldLink RX7 25 "NumeralCipher" "row" "LNumeralCipher$Row;") (by decide +kernel)) rfl rfl dX7_set_1 ?_
  refine lv_iload_n hx hb dX7_set_4 rfl (lv_at hl 1 rfl) ?_
  have hPc := hP.sub (ws' := [(ro, .inr (4, [.ref rc, .int (nI n), .int (nI bs)]))]) [1] rfl
  have hDc := hD.sub (ws' := [(ro, .inr (4, [.ref rc, .int (nI n), .int (nI bs)]))]) [1] (by decide) rfl
  refine gv_callR (W.runV (As := [.int (nI i)]) (rest := []) ⟨hx, hb, hml, hown, hts⟩ (c_X4_has l dC dI cI s.heap.size ro rc n bs (nI i) (by omega)) (cwV 1 hts gX7_set_X4_has rfl rfl rfl (by decide +kernel) ⟨Nat.le_of_ble_eq_true rfl, Nat.le_of_ble_eq_true rfl⟩) ⟨gPc_blind, va_recv hK hPc (ci := 4) (q0 := 0) rfl rfl, gPc_pre hPc hK hDc⟩ rfl rfl hl.1 rfl (lv_room (Nat.le_of_ble_eq_true rfl)) dX7_set_5 ⟨Nat.zero_le _, Nat.zero_le _⟩) ?_
  clear hPc hDc
  refine gv_top (y := nI 1) (congrArg nI (if_pos (by rw [nI_toInt (by omega)]; omega))) ?_
  refine gv_if_ne (tgt := 21) hx hb dX7_set_8 (by decide) (by omega) (fun c_8 => ?_) (fun c_8 => ?_)
  ·
    refine lv_aload_n hx hb dX7_set_21 rfl (lv_at hl 0 rfl) ?_
    refine gv_get (own := RX7) (D := (dC, dI)) (ci := 6) (C := RX7) (T := TX7) (N := 8) (v := .ref ro) hx hb hts (by decide +kernel) hown hK hP 0 rfl rfl 3 (by decide) (hts (.fieldLink RX7 25 "NumeralCipher" "row" "LNumeralCipher$Row;") (by decide +kernel)) rfl rfl dX7_set_22 ?_
    refine lv_iload_n hx hb dX7_set_25 rfl (lv_at hl 2 rfl) ?_
    have hPc := hP.sub (ws' := [(ro, .inr (4, [.ref rc, .int (nI n), .int (nI bs)]))]) [1] rfl
    have hDc := hD.sub (ws' := [(ro, .inr (4, [.ref rc, .int (nI n), .int (nI bs)]))]) [1] (by decide) rfl
    refine gv_callR (W.runV (As := [.int y]) (rest := []) ⟨hx, hb, hml, hown, hts⟩ (c_X4_isNumeral l dC dI cI s.heap.size ro rc n bs y (by omega)) (cwV 1 hts gX7_set_X4_isNumeral rfl rfl rfl (by decide +kernel) ⟨Nat.le_of_ble_eq_true rfl, Nat.le_of_ble_eq_true rfl⟩) ⟨gPc_blind, va_recv hK hPc (ci := 4) (q0 := 0) rfl rfl, gPc_pre hPc hK hDc⟩ rfl rfl hl.1 rfl (lv_room (Nat.le_of_ble_eq_true rfl)) dX7_set_26 ⟨Nat.zero_le _, Nat.zero_le _⟩) ?_
    clear hPc hDc
    refine gv_top (y := nI 0) (congrArg nI (if_neg (by omega))) ?_
    refine gv_if_ne (tgt := 42) hx hb dX7_set_29 (by decide) (by omega) (fun c_29 => ?_) (fun c_29 => ?_)
    ·
      exact absurd c_29 (by decide)
    ·
      obtain ⟨sa9, hsa9⟩ := hG.2.2.1 (121, "a numeral is 0 .. radix - 1") (by decide +kernel)
      exact vx_throwS (A := A) (own := RX7) (cls := "java/lang/IllegalArgumentException") (text := "a numeral is 0 .. radix - 1") (names := ["java/lang/RuntimeException", "java/lang/Exception"]) (ik := 61) (is := 121) (ic := 65) hx hb hl0 hown (by decide +kernel) (by decide +kernel) (hts (.classLink RX7 61 "java/lang/IllegalArgumentException") (by decide +kernel)) (hts (.initialized "java/lang/IllegalArgumentException") (by decide +kernel)) hsa9 (vx_hat (B := [.castable "java/lang/IllegalArgumentException" "java/lang/IllegalArgumentException", .declares ⟨"java/lang/RuntimeException", "<init>", "(Ljava/lang/String;)V"⟩, .declares ⟨"java/lang/Exception", "<init>", "(Ljava/lang/String;)V"⟩, .declares ⟨"java/lang/Throwable", "<init>", "(Ljava/lang/String;)V"⟩]) (fun w9 hw9 => hts w9 (List.mem_cons_of_mem _ (List.mem_append_right _ hw9))) (by decide +kernel) (vx_c (hG.2.cast "java/lang/IllegalArgumentException" (by decide +kernel)) (vx_c (hG.2.decl _ (by decide +kernel)) (vx_c (hG.2.decl _ (by decide +kernel)) (vx_c (hG.2.decl _ (by decide +kernel)) vx_n))))) (by decide +kernel) hG.2.2.2.1 hG.2.2.2.2.1 hS (hl.1.trans hml.symm) dX7_set_32 dX7_set_35 dX7_set_36 dX7_set_38 dX7_set_41 (fun x9 h9 => (htb9 x9 h9).elim) (Nat.le_of_ble_eq_true rfl) (Nat.le_of_ble_eq_true rfl) (Nat.le_of_ble_eq_true rfl) (Nat.le_of_ble_eq_true rfl) hlocks (fun t h1 h2 h3 => ⟨(), trivial, ⟨rfl, gB_thr h1 h3 hP hK hD⟩, va_F_thr hS h2 h3⟩) hS.2.2 (Nat.le_of_ble_eq_true rfl) (Nat.le_of_ble_eq_true rfl)
  ·
    exact absurd c_8 (by decide)

set_option maxHeartbeats 4000000 in
set_option maxRecDepth 100000 in
/-- the class throws, at: b1 -/
theorem x_X7_at_b1 (l : Launch) (hl0 : l.stackTraces = false) (dC : Nat → ClassId) (dI : Nat → Nat → Nat) (cI : ClassId) (tS : Nat) (sz : Nat) (x : Nat) (bf : Nat) (kb : Nat) (to : Nat) (ro : Nat) (fw : Nat) (sw : Nat) (na : Nat) (wo : Nat) (rc : Nat) (n : Nat) (bs : Nat) (y : Int32) (hn : n ≤ 64) (hbad : y.toInt < 0 ∨ (n : Int) ≤ y.toInt) : vx_Met l yX7_at wsX7_at ({ frames := 6, cells := 1, slots := 6, locals := 90 }) (gPf dC dI cI tS [.ref x, .int y] [(x, .inr (6, [.ref bf, .ref kb, .ref to, .ref ro, .ref fw, .ref sw, .ref na, .ref wo])), (ro, .inr (4, [.ref rc, .int (nI n), .int (nI bs)]))] sz) (va_Qi (fun (_ : Int32) (_ : Unit) => False) (fun _ _ => True) (va_A [(x, .inr (6, [.ref bf, .ref kb, .ref to, .ref ro, .ref fw, .ref sw, .ref na, .ref wo])), (ro, .inr (4, [.ref rc, .int (nI n), .int (nI bs)]))] sz)) (vx_X (fun _u : Unit => True) (fun E9 _u t => E9 = "java/lang/IndexOutOfBoundsException" ∧ gB dC dI cI (va_A [(x, .inr (6, [.ref bf, .ref kb, .ref to, .ref ro, .ref fw, .ref sw, .ref na, .ref wo])), (ro, .inr (4, [.ref rc, .int (nI n), .int (nI bs)]))] sz) [(x, .inr (6, [.ref bf, .ref kb, .ref to, .ref ro, .ref fw, .ref sw, .ref na, .ref wo])), (ro, .inr (4, [.ref rc, .int (nI n), .int (nI bs)]))] t) (va_A [(x, .inr (6, [.ref bf, .ref kb, .ref to, .ref ro, .ref fw, .ref sw, .ref na, .ref wo])), (ro, .inr (4, [.ref rc, .int (nI n), .int (nI bs)]))] sz)) 1 6 (va_A [(x, .inr (6, [.ref bf, .ref kb, .ref to, .ref ro, .ref fw, .ref sw, .ref na, .ref wo])), (ro, .inr (4, [.ref rc, .int (nI n), .int (nI bs)]))] sz) := by
  refine vx_ofW (cc := cX7_at) (maxL := 2) (ret := (some .int)) (by decide) rfl ?_
  intro p e s m args below meth c s₁ B9 hml htb9 hv
  obtain ⟨rfl, hsz, ⟨hP, hK, hD0⟩, hG⟩ := hv
  have hx := B9.exec
  have hb := B9.bytes
  have hr := B9.returns
  have hts := atoms_spec (ws := wsX7_at) B9.pre
  have hown : s.vm.findClass RX7 = some m.cls := findClass_of_methodNamed B9.named
  have hlocks := B9.notSynchronized
  subst hsz
  have hD := hD0.self (sz := s.heap.size)
  generalize hAe : va_A [(x, .inr (6, [.ref bf, .ref kb, .ref to, .ref ro, .ref fw, .ref sw, .ref na, .ref wo])), (ro, .inr (4, [.ref rc, .int (nI n), .int (nI bs)]))] s.heap.size = A at hD hG ⊢
  have hE := hG.1
  have hA : ∀ q : Nat, s.heap.size ≤ q → A q := fun q h => by rw [← hAe]; exact Or.inr h
  have hS : va_S A s.heap s.heap [] := va_S.rf
  have hl := lv_entry ([.ref x, .int y]) (n := 2) (Nat.le_of_ble_eq_true rfl)
  rw [lg_entry_eq]
  generalize (lg_sl ([.ref x, .int y]) ++ List.replicate (2 - (lg_sl ([.ref x, .int y])).length) Slot.unset).toArray = ls at hl ⊢
  have hl : lv_has ls 2 [(0, .ref x), (1, .int y)] := hl
  refine lv_aload_n hx hb dX7_at_0 rfl (lv_at hl 0 rfl) ?_
  refine gv_get (own := RX7) (D := (dC, dI)) (ci := 6) (C := RX7) (T := TX7) (N := 8) (v := .ref ro) hx hb hts (by decide +kernel) hown hK hP 0 rfl rfl 3 (by decide) (hts (.fieldLink RX7 25 "NumeralCipher" "row" "LNumeralCipher$Row;") (by decide +kernel)) rfl rfl dX7_at_1 ?_
  refine lv_iload_n hx hb dX7_at_4 rfl (lv_at hl 1 rfl) ?_
  have hPc := hP.sub (ws' := [(ro, .inr (4, [.ref rc, .int (nI n), .int (nI bs)]))]) [1] rfl
  have hDc := hD.sub (ws' := [(ro, .inr (4, [.ref rc, .int (nI n), .int (nI bs)]))]) [1] (by decide) rfl
  refine gv_callR (W.runV (As := [.int y]) (rest := []) ⟨hx, hb, hml, hown, hts⟩ (c_X4_has l dC dI cI s.heap.size ro rc n bs y (by omega)) (cwV 1 hts gX7_at_X4_has rfl rfl rfl (by decide +kernel) ⟨Nat.le_of_ble_eq_true rfl, Nat.le_of_ble_eq_true rfl⟩) ⟨gPc_blind, va_recv hK hPc (ci := 4) (q0 := 0) rfl rfl, gPc_pre hPc hK hDc⟩ rfl rfl hl.1 rfl (lv_room (Nat.le_of_ble_eq_true rfl)) dX7_at_5 ⟨Nat.zero_le _, Nat.zero_le _⟩) ?_
  clear hPc hDc
  refine gv_top (y := nI 0) (congrArg nI (if_neg (by omega))) ?_
  refine gv_if_ne (tgt := 21) hx hb dX7_at_8 (by decide) (by omega) (fun c_8 => ?_) (fun c_8 => ?_)
  ·
    exact absurd c_8 (by decide)
  ·
    obtain ⟨sa9, hsa9⟩ := hG.2.2.1 (131, "the row has no such numeral") (by decide +kernel)
    exact vx_throwS (A := A) (own := RX7) (cls := "java/lang/IndexOutOfBoundsException") (text := "the row has no such numeral") (names := ["java/lang/RuntimeException", "java/lang/Exception"]) (ik := 78) (is := 131) (ic := 82) hx hb hl0 hown (by decide +kernel) (by decide +kernel) (hts (.classLink RX7 78 "java/lang/IndexOutOfBoundsException") (by decide +kernel)) (hts (.initialized "java/lang/IndexOutOfBoundsException") (by decide +kernel)) hsa9 (vx_hat (B := [.castable "java/lang/IndexOutOfBoundsException" "java/lang/IndexOutOfBoundsException", .declares ⟨"java/lang/RuntimeException", "<init>", "(Ljava/lang/String;)V"⟩, .declares ⟨"java/lang/Exception", "<init>", "(Ljava/lang/String;)V"⟩, .declares ⟨"java/lang/Throwable", "<init>", "(Ljava/lang/String;)V"⟩]) (fun w9 hw9 => hts w9 (List.mem_cons_of_mem _ (List.mem_append_right _ hw9))) (by decide +kernel) (vx_c (hG.2.cast "java/lang/IndexOutOfBoundsException" (by decide +kernel)) (vx_c (hG.2.decl _ (by decide +kernel)) (vx_c (hG.2.decl _ (by decide +kernel)) (vx_c (hG.2.decl _ (by decide +kernel)) vx_n))))) (by decide +kernel) hG.2.2.2.1 hG.2.2.2.2.1 hS (hl.1.trans hml.symm) dX7_at_11 dX7_at_14 dX7_at_15 dX7_at_17 dX7_at_20 (fun x9 h9 => (htb9 x9 h9).elim) (Nat.le_of_ble_eq_true rfl) (Nat.le_of_ble_eq_true rfl) (Nat.le_of_ble_eq_true rfl) (Nat.le_of_ble_eq_true rfl) hlocks (fun t h1 h2 h3 => ⟨(), trivial, ⟨rfl, gB_thr h1 h3 hP hK hD⟩, va_F_thr hS h2 h3⟩) hS.2.2 (Nat.le_of_ble_eq_true rfl) (Nat.le_of_ble_eq_true rfl)

set_option maxHeartbeats 4000000 in
set_option maxRecDepth 100000 in
/-- the class throws, can: b1 -/
theorem x_X7_can_b1 (l : Launch) (hl0 : l.stackTraces = false) (dC : Nat → ClassId) (dI : Nat → Nat → Nat) (cI : ClassId) (tS : Nat) (sz : Nat) (x : Nat) (bf : Nat) (kb : Nat) (to : Nat) (ro : Nat) (fw : Nat) (sw : Nat) (na : Nat) (wo : Nat) (y : Int32) (hbad : y.toInt < 0 ∨ 1 < y.toInt) : vx_Met l yX7_can wsX7_can ({ frames := 6, cells := 1, slots := 6, locals := 90 }) (gPf dC dI cI tS [.ref x, .int y] [(x, .inr (6, [.ref bf, .ref kb, .ref to, .ref ro, .ref fw, .ref sw, .ref na, .ref wo]))] sz) (va_Qi (fun (_ : Int32) (_ : Unit) => False) (fun _ _ => True) (va_A [(x, .inr (6, [.ref bf, .ref kb, .ref to, .ref ro, .ref fw, .ref sw, .ref na, .ref wo]))] sz)) (vx_X (fun _u : Unit => True) (fun E9 _u t => E9 = "java/lang/IllegalArgumentException" ∧ gB dC dI cI (va_A [(x, .inr (6, [.ref bf, .ref kb, .ref to, .ref ro, .ref fw, .ref sw, .ref na, .ref wo]))] sz) [(x, .inr (6, [.ref bf, .ref kb, .ref to, .ref ro, .ref fw, .ref sw, .ref na, .ref wo]))] t) (va_A [(x, .inr (6, [.ref bf, .ref kb, .ref to, .ref ro, .ref fw, .ref sw, .ref na, .ref wo]))] sz)) 1 6 (va_A [(x, .inr (6, [.ref bf, .ref kb, .ref to, .ref ro, .ref fw, .ref sw, .ref na, .ref wo]))] sz) := by
  refine vx_ofW (cc := cX7_can) (maxL := 2) (ret := (some .boolean)) (by decide) rfl ?_
  intro p e s m args below meth c s₁ B9 hml htb9 hv
  obtain ⟨rfl, hsz, ⟨hP, hK, hD0⟩, hG⟩ := hv
  have hx := B9.exec
  have hb := B9.bytes
  have hr := B9.returns
  have hts := atoms_spec (ws := wsX7_can) B9.pre
  have hown : s.vm.findClass RX7 = some m.cls := findClass_of_methodNamed B9.named
  have hlocks := B9.notSynchronized
  subst hsz
  have hD := hD0.self (sz := s.heap.size)
  generalize hAe : va_A [(x, .inr (6, [.ref bf, .ref kb, .ref to, .ref ro, .ref fw, .ref sw, .ref na, .ref wo]))] s.heap.size = A at hD hG ⊢
  have hE := hG.1
  have hA : ∀ q : Nat, s.heap.size ≤ q → A q := fun q h => by rw [← hAe]; exact Or.inr h
  have hS : va_S A s.heap s.heap [] := va_S.rf
  have hl := lv_entry ([.ref x, .int y]) (n := 2) (Nat.le_of_ble_eq_true rfl)
  rw [lg_entry_eq]
  generalize (lg_sl ([.ref x, .int y]) ++ List.replicate (2 - (lg_sl ([.ref x, .int y])).length) Slot.unset).toArray = ls at hl ⊢
  have hl : lv_has ls 2 [(0, .ref x), (1, .int y)] := hl
  refine lv_iload_n hx hb dX7_can_0 rfl (lv_at hl 1 rfl) ?_
  refine lv_if_eq (tgt := 19) hx hb dX7_can_1 (by decide) (fun c_1 => ?_) (fun c_1 => ?_)
  ·
    exact absurd (show y.toInt = 0 by rw [c_1]; rfl) (by omega)
  ·
    refine lv_iload_n hx hb dX7_can_4 rfl (lv_at hl 1 rfl) ?_
    refine lv_iconst (v := nI 1) hx hb dX7_can_5 (by decide) ?_
    refine lv_icmp_eq (tgt := 19) hx hb dX7_can_6 (by decide) (fun c_6 => ?_) (fun c_6 => ?_)
    ·
      exact absurd (show y.toInt = 1 by rw [c_6]; rfl) (by omega)
    ·
      obtain ⟨sa9, hsa9⟩ := hG.2.2.1 (133, "a way is 0 or 1") (by decide +kernel)
      exact vx_throwS (A := A) (own := RX7) (cls := "java/lang/IllegalArgumentException") (text := "a way is 0 or 1") (names := ["java/lang/RuntimeException", "java/lang/Exception"]) (ik := 61) (is := 133) (ic := 65) hx hb hl0 hown (by decide +kernel) (by decide +kernel) (hts (.classLink RX7 61 "java/lang/IllegalArgumentException") (by decide +kernel)) (hts (.initialized "java/lang/IllegalArgumentException") (by decide +kernel)) hsa9 (vx_hat (B := [.castable "java/lang/IllegalArgumentException" "java/lang/IllegalArgumentException", .declares ⟨"java/lang/RuntimeException", "<init>", "(Ljava/lang/String;)V"⟩, .declares ⟨"java/lang/Exception", "<init>", "(Ljava/lang/String;)V"⟩, .declares ⟨"java/lang/Throwable", "<init>", "(Ljava/lang/String;)V"⟩]) (fun w9 hw9 => hts w9 (List.mem_cons_of_mem _ (List.mem_append_right _ hw9))) (by decide +kernel) (vx_c (hG.2.cast "java/lang/IllegalArgumentException" (by decide +kernel)) (vx_c (hG.2.decl _ (by decide +kernel)) (vx_c (hG.2.decl _ (by decide +kernel)) (vx_c (hG.2.decl _ (by decide +kernel)) vx_n))))) (by decide +kernel) hG.2.2.2.1 hG.2.2.2.2.1 hS (hl.1.trans hml.symm) dX7_can_9 dX7_can_12 dX7_can_13 dX7_can_15 dX7_can_18 (fun x9 h9 => (htb9 x9 h9).elim) (Nat.le_of_ble_eq_true rfl) (Nat.le_of_ble_eq_true rfl) (Nat.le_of_ble_eq_true rfl) (Nat.le_of_ble_eq_true rfl) hlocks (fun t h1 h2 h3 => ⟨(), trivial, ⟨rfl, gB_thr h1 h3 hP hK hD⟩, va_F_thr hS h2 h3⟩) hS.2.2 (Nat.le_of_ble_eq_true rfl) (Nat.le_of_ble_eq_true rfl)

set_option maxHeartbeats 4000000 in
set_option maxRecDepth 100000 in
/-- the class throws, turn: b1 -/
theorem x_X7_turn_b1 (l : Launch) (hl0 : l.stackTraces = false) (dC : Nat → ClassId) (dI : Nat → Nat → Nat) (cI : ClassId) (tS : Nat) (sz : Nat) (x : Nat) (bf : Nat) (kb : Nat) (to : Nat) (ro : Nat) (fw : Nat) (sw : Nat) (na : Nat) (wo : Nat) (y : Int32) (y2 : Int32) (hbad : y.toInt < 0 ∨ 1 < y.toInt) : vx_Met l yX7_turn wsX7_turn ({ frames := 6, cells := 1, slots := 6, locals := 90 }) (gPf dC dI cI tS [.ref x, .int y, .int y2] [(x, .inr (6, [.ref bf, .ref kb, .ref to, .ref ro, .ref fw, .ref sw, .ref na, .ref wo]))] sz) (va_Qv (fun _ : Unit => False) (fun _ _ => True) (va_A [(x, .inr (6, [.ref bf, .ref kb, .ref to, .ref ro, .ref fw, .ref sw, .ref na, .ref wo]))] sz)) (vx_X (fun _u : Unit => True) (fun E9 _u t => E9 = "java/lang/IllegalArgumentException" ∧ gB dC dI cI (va_A [(x, .inr (6, [.ref bf, .ref kb, .ref to, .ref ro, .ref fw, .ref sw, .ref na, .ref wo]))] sz) [(x, .inr (6, [.ref bf, .ref kb, .ref to, .ref ro, .ref fw, .ref sw, .ref na, .ref wo]))] t) (va_A [(x, .inr (6, [.ref bf, .ref kb, .ref to, .ref ro, .ref fw, .ref sw, .ref na, .ref wo]))] sz)) 1 6 (va_A [(x, .inr (6, [.ref bf, .ref kb, .ref to, .ref ro, .ref fw, .ref sw, .ref na, .ref wo]))] sz) := by
  refine vx_ofW (cc := cX7_turn) (maxL := 3) (ret := none) (by decide) rfl ?_
  intro p e s m args below meth c s₁ B9 hml htb9 hv
  obtain ⟨rfl, hsz, ⟨hP, hK, hD0⟩, hG⟩ := hv
  have hx := B9.exec
  have hb := B9.bytes
  have hr := B9.returns
  have hts := atoms_spec (ws := wsX7_turn) B9.pre
  have hown : s.vm.findClass RX7 = some m.cls := findClass_of_methodNamed B9.named
  have hlocks := B9.notSynchronized
  subst hsz
  have hD := hD0.self (sz := s.heap.size)
  generalize hAe : va_A [(x, .inr (6, [.ref bf, .ref kb, .ref to, .ref ro, .ref fw, .ref sw, .ref na, .ref wo]))] s.heap.size = A at hD hG ⊢
  have hE := hG.1
  have hA : ∀ q : Nat, s.heap.size ≤ q → A q := fun q h => by rw [← hAe]; exact Or.inr h
  have hS : va_S A s.heap s.heap [] := va_S.rf
  have hl := lv_entry ([.ref x, .int y, .int y2]) (n := 3) (Nat.le_of_ble_eq_true rfl)
  rw [lg_entry_eq]
  generalize (lg_sl ([.ref x, .int y, .int y2]) ++ List.replicate (3 - (lg_sl ([.ref x, .int y, .int y2])).length) Slot.unset).toArray = ls at hl ⊢
  have hl : lv_has ls 3 [(0, .ref x), (1, .int y), (2, .int y2)] := hl
  refine lv_iload_n hx hb dX7_turn_0 rfl (lv_at hl 1 rfl) ?_
  refine lv_if_eq (tgt := 19) hx hb dX7_turn_1 (by decide) (fun c_1 => ?_) (fun c_1 => ?_)
  ·
    exact absurd (show y.toInt = 0 by rw [c_1]; rfl) (by omega)
  ·
    refine lv_iload_n hx hb dX7_turn_4 rfl (lv_at hl 1 rfl) ?_
    refine lv_iconst (v := nI 1) hx hb dX7_turn_5 (by decide) ?_
    refine lv_icmp_eq (tgt := 19) hx hb dX7_turn_6 (by decide) (fun c_6 => ?_) (fun c_6 => ?_)
    ·
      exact absurd (show y.toInt = 1 by rw [c_6]; rfl) (by omega)
    ·
      obtain ⟨sa9, hsa9⟩ := hG.2.2.1 (133, "a way is 0 or 1") (by decide +kernel)
      exact vx_throwS (A := A) (own := RX7) (cls := "java/lang/IllegalArgumentException") (text := "a way is 0 or 1") (names := ["java/lang/RuntimeException", "java/lang/Exception"]) (ik := 61) (is := 133) (ic := 65) hx hb hl0 hown (by decide +kernel) (by decide +kernel) (hts (.classLink RX7 61 "java/lang/IllegalArgumentException") (by decide +kernel)) (hts (.initialized "java/lang/IllegalArgumentException") (by decide +kernel)) hsa9 (vx_hat (B := [.castable "java/lang/IllegalArgumentException" "java/lang/IllegalArgumentException", .declares ⟨"java/lang/RuntimeException", "<init>", "(Ljava/lang/String;)V"⟩, .declares ⟨"java/lang/Exception", "<init>", "(Ljava/lang/String;)V"⟩, .declares ⟨"java/lang/Throwable", "<init>", "(Ljava/lang/String;)V"⟩]) (fun w9 hw9 => hts w9 (List.mem_cons_of_mem _ (List.mem_append_left _ (List.mem_append_right _ hw9)))) (by decide +kernel) (vx_c (hG.2.cast "java/lang/IllegalArgumentException" (by decide +kernel)) (vx_c (hG.2.decl _ (by decide +kernel)) (vx_c (hG.2.decl _ (by decide +kernel)) (vx_c (hG.2.decl _ (by decide +kernel)) vx_n))))) (by decide +kernel) hG.2.2.2.1 hG.2.2.2.2.1 hS (hl.1.trans hml.symm) dX7_turn_9 dX7_turn_12 dX7_turn_13 dX7_turn_15 dX7_turn_18 (fun x9 h9 => (htb9 x9 h9).elim) (Nat.le_of_ble_eq_true rfl) (Nat.le_of_ble_eq_true rfl) (Nat.le_of_ble_eq_true rfl) (Nat.le_of_ble_eq_true rfl) hlocks (fun t h1 h2 h3 => ⟨(), trivial, ⟨rfl, gB_thr h1 h3 hP hK hD⟩, va_F_thr hS h2 h3⟩) hS.2.2 (Nat.le_of_ble_eq_true rfl) (Nat.le_of_ble_eq_true rfl)

set_option maxHeartbeats 4000000 in
set_option maxRecDepth 100000 in
/-- the class throws, turn: b2_0 -/
theorem x_X7_turn_b2_0 (l : Launch) (hl0 : l.stackTraces = false) (dC : Nat → ClassId) (dI : Nat → Nat → Nat) (cI : ClassId) (tS : Nat) (sz : Nat) (x : Nat) (bf : Nat) (kb : Nat) (to : Nat) (ro : Nat) (fw : Nat) (sw : Nat) (na : Nat) (wo : Nat) (rc : Nat) (tc : Nat) (nc : Nat) (n : Nat) (bs : Nat) (tn : Nat) (k0 : Nat) (ci : Nat) (tw : Nat) (stt : Nat) (chd : Nat) (spr : Nat) (iw : Nat) (rp : Nat) (aw : Nat) (f0 : Nat → Nat) (y2 : Int32) (hn : n ≤ 64) (hb1 : 2 ≤ bs) (hb2 : bs ≤ 65536) (htn : tn ≤ 64) (hno : ¬ (2 ≤ n ∧ 1000000 ≤ bs ^ n)) : vx_Met l yX7_turn wsX7_turn ({ frames := 6, cells := 1, slots := 6, locals := 90 }) (gPf dC dI cI tS [.ref x, .int (nI 0), .int y2] [(x, .inr (6, [.ref bf, .ref kb, .ref to, .ref ro, .ref fw, .ref sw, .ref na, .ref wo])), (ro, .inr (4, [.ref rc, .int (nI n), .int (nI bs)])), (to, .inr (1, [.ref tc, .int (nI tn)])), (fw, .inr (2, [.ref ci, .ref tw, .ref stt, .ref chd, .ref spr, .int (nI iw), .int (nI rp), .int (nI aw)])), (na, .inr (3, [.ref nc, .int (nI k0)])), (nc, .inl (cI, 17, .inl (gA f0)))] sz) (va_Qv (fun _ : Unit => False) (fun _ _ => True) (va_A [(x, .inr (6, [.ref bf, .ref kb, .ref to, .ref ro, .ref fw, .ref sw, .ref na, .ref wo])), (ro, .inr (4, [.ref rc, .int (nI n), .int (nI bs)])), (to, .inr (1, [.ref tc, .int (nI tn)])), (fw, .inr (2, [.ref ci, .ref tw, .ref stt, .ref chd, .ref spr, .int (nI iw), .int (nI rp), .int (nI aw)])), (na, .inr (3, [.ref nc, .int (nI k0)])), (nc, .inl (cI, 17, .inl (gA f0)))] sz)) (vx_X (fun u : Nat × (Nat → Nat) => True) (fun E9 u t => E9 = "java/lang/IllegalStateException" ∧ gB dC dI cI (va_A [(x, .inr (6, [.ref bf, .ref kb, .ref to, .ref ro, .ref fw, .ref sw, .ref na, .ref wo])), (ro, .inr (4, [.ref rc, .int (nI n), .int (nI bs)])), (to, .inr (1, [.ref tc, .int (nI tn)])), (fw, .inr (2, [.ref ci, .ref tw, .ref stt, .ref chd, .ref spr, .int (nI iw), .int (nI rp), .int (nI aw)])), (na, .inr (3, [.ref nc, .int (nI k0)])), (nc, .inl (cI, 17, .inl (gA f0)))] sz) [(x, .inr (6, [.ref bf, .ref kb, .ref to, .ref ro, .ref fw, .ref sw, .ref na, .ref wo])), (ro, .inr (4, [.ref rc, .int (nI n), .int (nI bs)])), (to, .inr (1, [.ref tc, .int (nI tn)])), (fw, .inr (2, [.ref ci, .ref tw, .ref stt, .ref chd, .ref spr, .int (nI iw), .int (nI rp), .int (nI aw)])), (na, .inr (3, [.ref nc, .int (nI u.1)])), (nc, .inl (cI, 17, .inl (gA u.2)))] t) (va_A [(x, .inr (6, [.ref bf, .ref kb, .ref to, .ref ro, .ref fw, .ref sw, .ref na, .ref wo])), (ro, .inr (4, [.ref rc, .int (nI n), .int (nI bs)])), (to, .inr (1, [.ref tc, .int (nI tn)])), (fw, .inr (2, [.ref ci, .ref tw, .ref stt, .ref chd, .ref spr, .int (nI iw), .int (nI rp), .int (nI aw)])), (na, .inr (3, [.ref nc, .int (nI k0)])), (nc, .inl (cI, 17, .inl (gA f0)))] sz)) 1 6 (va_A [(x, .inr (6, [.ref bf, .ref kb, .ref to, .ref ro, .ref fw, .ref sw, .ref na, .ref wo])), (ro, .inr (4, [.ref rc, .int (nI n), .int (nI bs)])), (to, .inr (1, [.ref tc, .int (nI tn)])), (fw, .inr (2, [.ref ci, .ref tw, .ref stt, .ref chd, .ref spr, .int (nI iw), .int (nI rp), .int (nI aw)])), (na, .inr (3, [.ref nc, .int (nI k0)])), (nc, .inl (cI, 17, .inl (gA f0)))] sz) := by
  refine vx_ofW (cc := cX7_turn) (maxL := 3) (ret := none) (by decide) rfl ?_
  intro p e s m args below meth c s₁ B9 hml htb9 hv
  obtain ⟨rfl, hsz, ⟨hP, hK, hD0⟩, hG⟩ := hv
  have hx := B9.exec
  have hb := B9.bytes
  have hr := B9.returns
  have hts := atoms_spec (ws := wsX7_turn) B9.pre
  have hown : s.vm.findClass RX7 = some m.cls := findClass_of_methodNamed B9.named
  have hlocks := B9.notSynchronized
  subst hsz
  have hD := hD0.self (sz := s.heap.size)
  generalize hAe : va_A [(x, .inr (6, [.ref bf, .ref kb, .ref to, .ref ro, .ref fw, .ref sw, .ref na, .ref wo])), (ro, .inr (4, [.ref rc, .int (nI n), .int (nI bs)])), (to, .inr (1, [.ref tc, .int (nI tn)])), (fw, .inr (2, [.ref ci, .ref tw, .ref stt, .ref chd, .ref spr, .int (nI iw), .int (nI rp), .int (nI aw)])), (na, .inr (3, [.ref nc, .int (nI k0)])), (nc, .inl (cI, 17, .inl (gA f0)))] s.heap.size = A at hD hG ⊢
  have hE := hG.1
  have hA : ∀ q : Nat, s.heap.size ≤ q → A q := fun q h => by rw [← hAe]; exact Or.inr h
  have hS : va_S A s.heap s.heap [] := va_S.rf
  have hl := lv_entry ([.ref x, .int (nI 0), .int y2]) (n := 3) (Nat.le_of_ble_eq_true rfl)
  rw [lg_entry_eq]
  generalize (lg_sl ([.ref x, .int (nI 0), .int y2]) ++ List.replicate (3 - (lg_sl ([.ref x, .int (nI 0), .int y2])).length) Slot.unset).toArray = ls at hl ⊢
  have hl : lv_has ls 3 [(0, .ref x), (1, .int (nI 0)), (2, .int y2)] := hl
  refine lv_iload_n hx hb dX7_turn_0 rfl (lv_at hl 1 rfl) ?_
  refine gv_if_eq (tgt := 19) hx hb dX7_turn_1 (by decide) (by omega) (fun c_1 => ?_) (fun c_1 => ?_)
  ·
    refine lv_aload_n hx hb dX7_turn_19 rfl (lv_at hl 0 rfl) ?_
    refine lv_iload_n hx hb dX7_turn_20 rfl (lv_at hl 1 rfl) ?_
    have hPc := hP.sub (ws' := [(x, .inr (6, [.ref bf, .ref kb, .ref to, .ref ro, .ref fw, .ref sw, .ref na, .ref wo])), (ro, .inr (4, [.ref rc, .int (nI n), .int (nI bs)])), (to, .inr (1, [.ref tc, .int (nI tn)])), (fw, .inr (2, [.ref ci, .ref tw, .ref stt, .ref chd, .ref spr, .int (nI iw), .int (nI rp), .int (nI aw)])), (na, .inr (3, [.ref nc, .int (nI k0)])), (nc, .inl (cI, 17, .inl (gA f0)))]) [0, 1, 2, 3, 4, 5] rfl
    have hDc := hD.sub (ws' := [(x, .inr (6, [.ref bf, .ref kb, .ref to, .ref ro, .ref fw, .ref sw, .ref na, .ref wo])), (ro, .inr (4, [.ref rc, .int (nI n), .int (nI bs)])), (to, .inr (1, [.ref tc, .int (nI tn)])), (fw, .inr (2, [.ref ci, .ref tw, .ref stt, .ref chd, .ref spr, .int (nI iw), .int (nI rp), .int (nI aw)])), (na, .inr (3, [.ref nc, .int (nI k0)])), (nc, .inl (cI, 17, .inl (gA f0)))]) [0, 1, 2, 3, 4, 5] (by decide) rfl
    have hFc := va_free (wc := [(x, .inr (6, [.ref bf, .ref kb, .ref to, .ref ro, .ref fw, .ref sw, .ref na, .ref wo])), (ro, .inr (4, [.ref rc, .int (nI n), .int (nI bs)])), (to, .inr (1, [.ref tc, .int (nI tn)])), (fw, .inr (2, [.ref ci, .ref tw, .ref stt, .ref chd, .ref spr, .int (nI iw), .int (nI rp), .int (nI aw)])), (na, .inr (3, [.ref nc, .int (nI k0)])), (nc, .inl (cI, 17, .inl (gA f0)))]) hD hS hA [0, 1, 2, 3, 4, 5] rfl
    refine va_calli (va_runV (As := [.int (nI 0)]) (rest := []) ⟨hx, hb, hml, hown, hts⟩ (c_X7_isTurnable_0 l dC dI cI tS s.heap.size x bf kb to ro fw sw na wo rc tc nc n bs tn k0 ci tw stt chd spr iw rp aw f0 (by omega) (by omega) (by omega) (by omega)) (cwV 1 hts gX7_turn_X7_isTurnable rfl rfl rfl (by decide +kernel) ⟨Nat.le_of_ble_eq_true rfl, Nat.le_of_ble_eq_true rfl⟩) ⟨gPe_blind, va_recv hK hPc (ci := 6) (q0 := 0) rfl rfl, gPe_pre hPc hK hDc (hE.at hS) hFc⟩ rfl rfl hl.1 rfl (lv_room (Nat.le_of_ble_eq_true rfl)) dX7_turn_21 ⟨Nat.zero_le _, Nat.zero_le _⟩) hS (fun q _ h => hFc q h) hFc (fun r9 u8 t8 H1 locs ht hvm hw hB hz1 hk1 hS => ?_)
    obtain ⟨m9_1, f9_1⟩ := u8
    try dsimp only at hw hB
    obtain ⟨hP, hD⟩ := gB_join (wr := []) (w2 := [(x, .inr (6, [.ref bf, .ref kb, .ref to, .ref ro, .ref fw, .ref sw, .ref na, .ref wo])), (ro, .inr (4, [.ref rc, .int (nI n), .int (nI bs)])), (to, .inr (1, [.ref tc, .int (nI tn)])), (fw, .inr (2, [.ref ci, .ref tw, .ref stt, .ref chd, .ref spr, .int (nI iw), .int (nI rp), .int (nI aw)])), (na, .inr (3, [.ref nc, .int (nI m9_1)])), (nc, .inl (cI, 17, .inl (gA f9_1)))]) hP hD [0, 1, 2, 3, 4, 5] [] rfl rfl (by decide) (by decide) hk1 hFc ht hB rfl
    clear hk1 hz1 ht hB hvm hPc hDc hFc
    generalize H1 = H at hP hS ⊢
    subst hw
    refine gv_top (y := nI 0) (congrArg nI (if_neg hno)) ?_
    refine gv_if_ne (tgt := 37) hx hb dX7_turn_24 (by decide) (by omega) (fun c_24 => ?_) (fun c_24 => ?_)
    ·
      exact absurd c_24 (by decide)
    ·
      obtain ⟨sa9, hsa9⟩ := hG.2.2.1 (140, "the row can not be turned") (by decide +kernel)
      exact vx_throwS (A := A) (own := RX7) (cls := "java/lang/IllegalStateException") (text := "the row can not be turned") (names := ["java/lang/RuntimeException", "java/lang/Exception"]) (ik := 138) (is := 140) (ic := 142) hx hb hl0 hown (by decide +kernel) (by decide +kernel) (hts (.classLink RX7 138 "java/lang/IllegalStateException") (by decide +kernel)) (hts (.initialized "java/lang/IllegalStateException") (by decide +kernel)) hsa9 (vx_hat (B := [.castable "java/lang/IllegalStateException" "java/lang/IllegalStateException", .declares ⟨"java/lang/RuntimeException", "<init>", "(Ljava/lang/String;)V"⟩, .declares ⟨"java/lang/Exception", "<init>", "(Ljava/lang/String;)V"⟩, .declares ⟨"java/lang/Throwable", "<init>", "(Ljava/lang/String;)V"⟩]) (fun w9 hw9 => hts w9 (List.mem_cons_of_mem _ (List.mem_append_right _ hw9))) (by decide +kernel) (vx_c (hG.2.cast "java/lang/IllegalStateException" (by decide +kernel)) (vx_c (hG.2.decl _ (by decide +kernel)) (vx_c (hG.2.decl _ (by decide +kernel)) (vx_c (hG.2.decl _ (by decide +kernel)) vx_n))))) (by decide +kernel) hG.2.2.2.1 hG.2.2.2.2.1 hS (hl.1.trans hml.symm) dX7_turn_27 dX7_turn_30 dX7_turn_31 dX7_turn_33 dX7_turn_36 (fun x9 h9 => (htb9 x9 h9).elim) (Nat.le_of_ble_eq_true rfl) (Nat.le_of_ble_eq_true rfl) (Nat.le_of_ble_eq_true rfl) (Nat.le_of_ble_eq_true rfl) hlocks (fun t h1 h2 h3 => ⟨(m9_1, f9_1), trivial, ⟨rfl, gB_thr h1 h3 hP hK hD⟩, va_F_thr hS h2 h3⟩) hS.2.2 (Nat.le_of_ble_eq_true rfl) (Nat.le_of_ble_eq_true rfl)
  ·
    exact absurd c_1 (by decide)

set_option maxHeartbeats 4000000 in
set_option maxRecDepth 100000 in
/-- the class throws, turn: b2_1 -/
theorem x_X7_turn_b2_1 (l : Launch) (hl0 : l.stackTraces = false) (dC : Nat → ClassId) (dI : Nat → Nat → Nat) (cI : ClassId) (tS : Nat) (sz : Nat) (x : Nat) (bf : Nat) (kb : Nat) (to : Nat) (ro : Nat) (fw : Nat) (sw : Nat) (na : Nat) (wo : Nat) (rc : Nat) (tc : Nat) (nc : Nat) (n : Nat) (bs : Nat) (tn : Nat) (k0 : Nat) (ci2 : Nat) (tu : Nat) (lf : Nat) (rt : Nat) (f0 : Nat → Nat) (y2 : Int32) (hn : n ≤ 64) (hb1 : 2 ≤ bs) (hb2 : bs ≤ 65536) (htn : tn ≤ 64) (hno : ¬ ((2 ≤ n ∧ 1000000 ≤ bs ^ n) ∧ (tn = 7 ∧ bl (bs ^ (n - n / 2) - 1) ≤ 12))) : vx_Met l yX7_turn wsX7_turn ({ frames := 6, cells := 1, slots := 6, locals := 137 }) (gPf dC dI cI tS [.ref x, .int (nI 1), .int y2] [(x, .inr (6, [.ref bf, .ref kb, .ref to, .ref ro, .ref fw, .ref sw, .ref na, .ref wo])), (ro, .inr (4, [.ref rc, .int (nI n), .int (nI bs)])), (to, .inr (1, [.ref tc, .int (nI tn)])), (sw, .inr (5, [.ref ci2, .ref tu, .int (nI lf), .int (nI rt)])), (na, .inr (3, [.ref nc, .int (nI k0)])), (nc, .inl (cI, 17, .inl (gA f0)))] sz) (va_Qv (fun _ : Unit => False) (fun _ _ => True) (va_A [(x, .inr (6, [.ref bf, .ref kb, .ref to, .ref ro, .ref fw, .ref sw, .ref na, .ref wo])), (ro, .inr (4, [.ref rc, .int (nI n), .int (nI bs)])), (to, .inr (1, [.ref tc, .int (nI tn)])), (sw, .inr (5, [.ref ci2, .ref tu, .int (nI lf), .int (nI rt)])), (na, .inr (3, [.ref nc, .int (nI k0)])), (nc, .inl (cI, 17, .inl (gA f0)))] sz)) (vx_X (fun u : Nat × (Nat → Nat) => True) (fun E9 u t => E9 = "java/lang/IllegalStateException" ∧ gB dC dI cI (va_A [(x, .inr (6, [.ref bf, .ref kb, .ref to, .ref ro, .ref fw, .ref sw, .ref na, .ref wo])), (ro, .inr (4, [.ref rc, .int (nI n), .int (nI bs)])), (to, .inr (1, [.ref tc, .int (nI tn)])), (sw, .inr (5, [.ref ci2, .ref tu, .int (nI lf), .int (nI rt)])), (na, .inr (3, [.ref nc, .int (nI k0)])), (nc, .inl (cI, 17, .inl (gA f0)))] sz) [(x, .inr (6, [.ref bf, .ref kb, .ref to, .ref ro, .ref fw, .ref sw, .ref na, .ref wo])), (ro, .inr (4, [.ref rc, .int (nI n), .int (nI bs)])), (to, .inr (1, [.ref tc, .int (nI tn)])), (sw, .inr (5, [.ref ci2, .ref tu, .int (nI lf), .int (nI rt)])), (na, .inr (3, [.ref nc, .int (nI u.1)])), (nc, .inl (cI, 17, .inl (gA u.2)))] t) (va_A [(x, .inr (6, [.ref bf, .ref kb, .ref to, .ref ro, .ref fw, .ref sw, .ref na, .ref wo])), (ro, .inr (4, [.ref rc, .int (nI n), .int (nI bs)])), (to, .inr (1, [.ref tc, .int (nI tn)])), (sw, .inr (5, [.ref ci2, .ref tu, .int (nI lf), .int (nI rt)])), (na, .inr (3, [.ref nc, .int (nI k0)])), (nc, .inl (cI, 17, .inl (gA f0)))] sz)) 1 6 (va_A [(x, .inr (6, [.ref bf, .ref kb, .ref to, .ref ro, .ref fw, .ref sw, .ref na, .ref wo])), (ro, .inr (4, [.ref rc, .int (nI n), .int (nI bs)])), (to, .inr (1, [.ref tc, .int (nI tn)])), (sw, .inr (5, [.ref ci2, .ref tu, .int (nI lf), .int (nI rt)])), (na, .inr (3, [.ref nc, .int (nI k0)])), (nc, .inl (cI, 17, .inl (gA f0)))] sz) := by
  refine vx_ofW (cc := cX7_turn) (maxL := 3) (ret := none) (by decide) rfl ?_
  intro p e s m args below meth c s₁ B9 hml htb9 hv
  obtain ⟨rfl, hsz, ⟨hP, hK, hD0⟩, hG⟩ := hv
  have hx := B9.exec
  have hb := B9.bytes
  have hr := B9.returns
  have hts := atoms_spec (ws := wsX7_turn) B9.pre
  have hown : s.vm.findClass RX7 = some m.cls := findClass_of_methodNamed B9.named
  have hlocks := B9.notSynchronized
  subst hsz
  have hD := hD0.self (sz := s.heap.size)
  generalize hAe : va_A [(x, .inr (6, [.ref bf, .ref kb, .ref to, .ref ro, .ref fw, .ref sw, .ref na, .ref wo])), (ro, .inr (4, [.ref rc, .int (nI n), .int (nI bs)])), (to, .inr (1, [.ref tc, .int (nI tn)])), (sw, .inr (5, [.ref ci2, .ref tu, .int (nI lf), .int (nI rt)])), (na, .inr (3, [.ref nc, .int (nI k0)])), (nc, .inl (cI, 17, .inl (gA f0)))] s.heap.size = A at hD hG ⊢
  have hE := hG.1
  have hA : ∀ q : Nat, s.heap.size ≤ q → A q := fun q h => by rw [← hAe]; exact Or.inr h
  have hS : va_S A s.heap s.heap [] := va_S.rf
  have hl := lv_entry ([.ref x, .int (nI 1), .int y2]) (n := 3) (Nat.le_of_ble_eq_true rfl)
  rw [lg_entry_eq]
  generalize (lg_sl ([.ref x, .int (nI 1), .int y2]) ++ List.replicate (3 - (lg_sl ([.ref x, .int (nI 1), .int y2])).length) Slot.unset).toArray = ls at hl ⊢
  have hl : lv_has ls 3 [(0, .ref x), (1, .int (nI 1)), (2, .int y2)] := hl
  refine lv_iload_n hx hb dX7_turn_0 rfl (lv_at hl 1 rfl) ?_
  refine gv_if_eq (tgt := 19) hx hb dX7_turn_1 (by decide) (by omega) (fun c_1 => ?_) (fun c_1 => ?_)
  ·
    exact absurd c_1 (by decide)
  ·
    refine lv_iload_n hx hb dX7_turn_4 rfl (lv_at hl 1 rfl) ?_
    refine lv_iconst (v := nI 1) hx hb dX7_turn_5 (by decide) ?_
    refine gv_icmp_eq (tgt := 19) hx hb dX7_turn_6 (by decide) (by omega) (by omega) (fun c_6 => ?_) (fun c_6 => ?_)
    ·
      refine lv_aload_n hx hb dX7_turn_19 rfl (lv_at hl 0 rfl) ?_
      refine lv_iload_n hx hb dX7_turn_20 rfl (lv_at hl 1 rfl) ?_
      have hPc := hP.sub (ws' := [(x, .inr (6, [.ref bf, .ref kb, .ref to, .ref ro, .ref fw, .ref sw, .ref na, .ref wo])), (ro, .inr (4, [.ref rc, .int (nI n), .int (nI bs)])), (to, .inr (1, [.ref tc, .int (nI tn)])), (sw, .inr (5, [.ref ci2, .ref tu, .int (nI lf), .int (nI rt)])), (na, .inr (3, [.ref nc, .int (nI k0)])), (nc, .inl (cI, 17, .inl (gA f0)))]) [0, 1, 2, 3, 4, 5] rfl
      have hDc := hD.sub (ws' := [(x, .inr (6, [.ref bf, .ref kb, .ref to, .ref ro, .ref fw, .ref sw, .ref na, .ref wo])), (ro, .inr (4, [.ref rc, .int (nI n), .int (nI bs)])), (to, .inr (1, [.ref tc, .int (nI tn)])), (sw, .inr (5, [.ref ci2, .ref tu, .int (nI lf), .int (nI rt)])), (na, .inr (3, [.ref nc, .int (nI k0)])), (nc, .inl (cI, 17, .inl (gA f0)))]) [0, 1, 2, 3, 4, 5] (by decide) rfl
      have hFc := va_free (wc := [(x, .inr (6, [.ref bf, .ref kb, .ref to, .ref ro, .ref fw, .ref sw, .ref na, .ref wo])), (ro, .inr (4, [.ref rc, .int (nI n), .int (nI bs)])), (to, .inr (1, [.ref tc, .int (nI tn)])), (sw, .inr (5, [.ref ci2, .ref tu, .int (nI lf), .int (nI rt)])), (na, .inr (3, [.ref nc, .int (nI k0)])), (nc, .inl (cI, 17, .inl (gA f0)))]) hD hS hA [0, 1, 2, 3, 4, 5] rfl
      refine va_calli (va_runV (As := [.int (nI 1)]) (rest := []) ⟨hx, hb, hml, hown, hts⟩ (c_X7_isTurnable_1 l dC dI cI tS s.heap.size x bf kb to ro fw sw na wo rc tc nc n bs tn k0 ci2 tu lf rt f0 (by omega) (by omega) (by omega) (by omega)) (cwV 1 hts gX7_turn_X7_isTurnable rfl rfl rfl (by decide +kernel) ⟨Nat.le_of_ble_eq_true rfl, Nat.le_of_ble_eq_true rfl⟩) ⟨gPe_blind, va_recv hK hPc (ci := 6) (q0 := 0) rfl rfl, gPe_pre hPc hK hDc (hE.at hS) hFc⟩ rfl rfl hl.1 rfl (lv_room (Nat.le_of_ble_eq_true rfl)) dX7_turn_21 ⟨Nat.zero_le _, Nat.zero_le _⟩) hS (fun q _ h => hFc q h) hFc (fun r9 u8 t8 H1 locs ht hvm hw hB hz1 hk1 hS => ?_)
      obtain ⟨m9_1, f9_1⟩ := u8
      try dsimp only at hw hB
      obtain ⟨hP, hD⟩ := gB_join (wr := []) (w2 := [(x, .inr (6, [.ref bf, .ref kb, .ref to, .ref ro, .ref fw, .ref sw, .ref na, .ref wo])), (ro, .inr (4, [.ref rc, .int (nI n), .int (nI bs)])), (to, .inr (1, [.ref tc, .int (nI tn)])), (sw, .inr (5, [.ref ci2, .ref tu, .int (nI lf), .int (nI rt)])), (na, .inr (3, [.ref nc, .int (nI m9_1)])), (nc, .inl (cI, 17, .inl (gA f9_1)))]) hP hD [0, 1, 2, 3, 4, 5] [] rfl rfl (by decide) (by decide) hk1 hFc ht hB rfl
      clear hk1 hz1 ht hB hvm hPc hDc hFc
      generalize H1 = H at hP hS ⊢
      subst hw
      refine gv_top (y := nI 0) (congrArg nI (if_neg hno)) ?_
      refine gv_if_ne (tgt := 37) hx hb dX7_turn_24 (by decide) (by omega) (fun c_24 => ?_) (fun c_24 => ?_)
      ·
        exact absurd c_24 (by decide)
      ·
        obtain ⟨sa9, hsa9⟩ := hG.2.2.1 (140, "the row can not be turned") (by decide +kernel)
        exact vx_throwS (A := A) (own := RX7) (cls := "java/lang/IllegalStateException") (text := "the row can not be turned") (names := ["java/lang/RuntimeException", "java/lang/Exception"]) (ik := 138) (is := 140) (ic := 142) hx hb hl0 hown (by decide +kernel) (by decide +kernel) (hts (.classLink RX7 138 "java/lang/IllegalStateException") (by decide +kernel)) (hts (.initialized "java/lang/IllegalStateException") (by decide +kernel)) hsa9 (vx_hat (B := [.castable "java/lang/IllegalStateException" "java/lang/IllegalStateException", .declares ⟨"java/lang/RuntimeException", "<init>", "(Ljava/lang/String;)V"⟩, .declares ⟨"java/lang/Exception", "<init>", "(Ljava/lang/String;)V"⟩, .declares ⟨"java/lang/Throwable", "<init>", "(Ljava/lang/String;)V"⟩]) (fun w9 hw9 => hts w9 (List.mem_cons_of_mem _ (List.mem_append_right _ hw9))) (by decide +kernel) (vx_c (hG.2.cast "java/lang/IllegalStateException" (by decide +kernel)) (vx_c (hG.2.decl _ (by decide +kernel)) (vx_c (hG.2.decl _ (by decide +kernel)) (vx_c (hG.2.decl _ (by decide +kernel)) vx_n))))) (by decide +kernel) hG.2.2.2.1 hG.2.2.2.2.1 hS (hl.1.trans hml.symm) dX7_turn_27 dX7_turn_30 dX7_turn_31 dX7_turn_33 dX7_turn_36 (fun x9 h9 => (htb9 x9 h9).elim) (Nat.le_of_ble_eq_true rfl) (Nat.le_of_ble_eq_true rfl) (Nat.le_of_ble_eq_true rfl) (Nat.le_of_ble_eq_true rfl) hlocks (fun t h1 h2 h3 => ⟨(m9_1, f9_1), trivial, ⟨rfl, gB_thr h1 h3 hP hK hD⟩, va_F_thr hS h2 h3⟩) hS.2.2 (Nat.le_of_ble_eq_true rfl) (Nat.le_of_ble_eq_true rfl)
    ·
      exact absurd c_6 (by decide)

set_option maxHeartbeats 4000000 in
set_option maxRecDepth 100000 in
/-- the class throws, count: b1 -/
theorem x_X7_count_b1 (l : Launch) (hl0 : l.stackTraces = false) (dC : Nat → ClassId) (dI : Nat → Nat → Nat) (cI : ClassId) (tS : Nat) (sz : Nat) (x : Nat) (bf : Nat) (kb : Nat) (to : Nat) (ro : Nat) (fw : Nat) (sw : Nat) (na : Nat) (wo : Nat) (y : Int32) (hbad : y.toInt < 0 ∨ 4 < y.toInt) : vx_Met l yX7_count wsX7_count ({ frames := 6, cells := 1, slots := 6, locals := 90 }) (gPf dC dI cI tS [.ref x, .int y] [(x, .inr (6, [.ref bf, .ref kb, .ref to, .ref ro, .ref fw, .ref sw, .ref na, .ref wo]))] sz) (va_Qi (fun (_ : Int32) (_ : Unit) => False) (fun _ _ => True) (va_A [(x, .inr (6, [.ref bf, .ref kb, .ref to, .ref ro, .ref fw, .ref sw, .ref na, .ref wo]))] sz)) (vx_X (fun _u : Unit => True) (fun E9 _u t => E9 = "java/lang/IndexOutOfBoundsException" ∧ gB dC dI cI (va_A [(x, .inr (6, [.ref bf, .ref kb, .ref to, .ref ro, .ref fw, .ref sw, .ref na, .ref wo]))] sz) [(x, .inr (6, [.ref bf, .ref kb, .ref to, .ref ro, .ref fw, .ref sw, .ref na, .ref wo]))] t) (va_A [(x, .inr (6, [.ref bf, .ref kb, .ref to, .ref ro, .ref fw, .ref sw, .ref na, .ref wo]))] sz)) 1 6 (va_A [(x, .inr (6, [.ref bf, .ref kb, .ref to, .ref ro, .ref fw, .ref sw, .ref na, .ref wo]))] sz) := by
  refine vx_ofW (cc := cX7_count) (maxL := 2) (ret := (some .int)) (by decide) rfl ?_
  intro p e s m args below meth c s₁ B9 hml htb9 hv
  obtain ⟨rfl, hsz, ⟨hP, hK, hD0⟩, hG⟩ := hv
  have hx := B9.exec
  have hb := B9.bytes
  have hr := B9.returns
  have hts := atoms_spec (ws := wsX7_count) B9.pre
  have hown : s.vm.findClass RX7 = some m.cls := findClass_of_methodNamed B9.named
  have hlocks := B9.notSynchronized
  subst hsz
  have hD := hD0.self (sz := s.heap.size)
  generalize hAe : va_A [(x, .inr (6, [.ref bf, .ref kb, .ref to, .ref ro, .ref fw, .ref sw, .ref na, .ref wo]))] s.heap.size = A at hD hG ⊢
  have hE := hG.1
  have hA : ∀ q : Nat, s.heap.size ≤ q → A q := fun q h => by rw [← hAe]; exact Or.inr h
  have hS : va_S A s.heap s.heap [] := va_S.rf
  have hl := lv_entry ([.ref x, .int y]) (n := 2) (Nat.le_of_ble_eq_true rfl)
  rw [lg_entry_eq]
  generalize (lg_sl ([.ref x, .int y]) ++ List.replicate (2 - (lg_sl ([.ref x, .int y])).length) Slot.unset).toArray = ls at hl ⊢
  have hl : lv_has ls 2 [(0, .ref x), (1, .int y)] := hl
  refine lv_iload_n hx hb dX7_count_0 rfl (lv_at hl 1 rfl) ?_
  refine lv_tableOut (tgt := 76) hx hb dX7_count_1 hbad (by decide) ?_
  obtain ⟨sa9, hsa9⟩ := hG.2.2.1 (151, "what is 0 .. 4") (by decide +kernel)
  exact vx_throwS (A := A) (own := RX7) (cls := "java/lang/IndexOutOfBoundsException") (text := "what is 0 .. 4") (names := ["java/lang/RuntimeException", "java/lang/Exception"]) (ik := 78) (is := 151) (ic := 82) hx hb hl0 hown (by decide +kernel) (by decide +kernel) (hts (.classLink RX7 78 "java/lang/IndexOutOfBoundsException") (by decide +kernel)) (hts (.initialized "java/lang/IndexOutOfBoundsException") (by decide +kernel)) hsa9 (vx_hat (B := [.castable "java/lang/IndexOutOfBoundsException" "java/lang/IndexOutOfBoundsException", .declares ⟨"java/lang/RuntimeException", "<init>", "(Ljava/lang/String;)V"⟩, .declares ⟨"java/lang/Exception", "<init>", "(Ljava/lang/String;)V"⟩, .declares ⟨"java/lang/Throwable", "<init>", "(Ljava/lang/String;)V"⟩]) (fun w9 hw9 => hts w9 (List.mem_cons_of_mem _ (List.mem_append_right _ hw9))) (by decide +kernel) (vx_c (hG.2.cast "java/lang/IndexOutOfBoundsException" (by decide +kernel)) (vx_c (hG.2.decl _ (by decide +kernel)) (vx_c (hG.2.decl _ (by decide +kernel)) (vx_c (hG.2.decl _ (by decide +kernel)) vx_n))))) (by decide +kernel) hG.2.2.2.1 hG.2.2.2.2.1 hS (hl.1.trans hml.symm) dX7_count_76 dX7_count_79 dX7_count_80 dX7_count_82 dX7_count_85 (fun x9 h9 => (htb9 x9 h9).elim) (Nat.le_of_ble_eq_true rfl) (Nat.le_of_ble_eq_true rfl) (Nat.le_of_ble_eq_true rfl) (Nat.le_of_ble_eq_true rfl) hlocks (fun t h1 h2 h3 => ⟨(), trivial, ⟨rfl, gB_thr h1 h3 hP hK hD⟩, va_F_thr hS h2 h3⟩) hS.2.2 (Nat.le_of_ble_eq_true rfl) (Nat.le_of_ble_eq_true rfl)
