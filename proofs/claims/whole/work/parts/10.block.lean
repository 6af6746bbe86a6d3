set_option maxHeartbeats 4000000 in
set_option maxRecDepth 100000 in
/-- rotated(word, bits) -/
theorem c_X0_rotated (l : Launch) (w : Nat) (k : Nat) (hw : w < 4294967296) (hk0 : 0 < k) (hk : k < 32) : Met l yX0_rotated wsX0_rotated ({ frames := 0, cells := 0, slots := 0, locals := 0 }) (va_Pc [.int (nI w), .int (nI k)] (fun _ => True)) (QcRead (nI (rotW w k))) 0 0 (fun _ => False) := by
  refine Met.ofW (cc := cX0_rotated) (maxL := 2) (ret := (some .int)) (by decide) rfl ?_
  intro p e s m args below meth c s₁ B9 hml hv
  obtain ⟨rfl, -⟩ := hv
  have hx := B9.exec
  have hb := B9.bytes
  have hr := B9.returns
  have hts := atoms_spec (ws := wsX0_rotated) B9.pre
  have hown : s.vm.findClass RX0 = some m.cls := findClass_of_methodNamed B9.named
  have hlocks := B9.notSynchronized
  have hl := lv_entry ([.int (nI w), .int (nI k)]) (n := 2) (Nat.le_of_ble_eq_true rfl)
  rw [lg_entry_eq]
  generalize (lg_sl ([.int (nI w), .int (nI k)]) ++ List.replicate (2 - (lg_sl ([.int (nI w), .int (nI k)])).length) Slot.unset).toArray = ls at hl ⊢
  have hl : lv_has ls 2 [(0, .int (nI w)), (1, .int (nI k))] := hl
  refine lv_iload_n hx hb dX0_rotated_0 rfl (lv_at hl 0 rfl) ?_
  refine lv_iload_n hx hb dX0_rotated_1 rfl (lv_at hl 1 rfl) ?_
  refine gv_ishl (r := w * (2 ^ k)) hx hb dX0_rotated_2 (by omega) rfl ?_
  refine lv_iload_n hx hb dX0_rotated_3 rfl (lv_at hl 0 rfl) ?_
  refine lv_bipush (v := nI 32) hx hb dX0_rotated_4 (by decide) ?_
  refine lv_iload_n hx hb dX0_rotated_6 rfl (lv_at hl 1 rfl) ?_
  refine gv_isub (r := 32 - k) hx hb dX0_rotated_7 (by omega) ?_
  refine gv_iushr (r := w / (2 ^ (32 - k))) hx hb dX0_rotated_8 (by omega) (by omega) rfl ?_
  refine gv_ior (r := (w * (2 ^ k)) ||| (w / (2 ^ (32 - k)))) hx hb dX0_rotated_9 rfl ?_
  refine gv_top (y := (nI (rotW w k))) rfl ?_
  exact W.iret (v := (nI (rotW w k))) hx hb hr (fun t ht hW => ⟨rfl, ht⟩) (fun q h => by cases h) dX0_rotated_10

set_option maxHeartbeats 4000000 in
set_option maxRecDepth 100000 in
/-- doubled(word) -/
theorem c_X0_doubled (l : Launch) (w : Nat) (hw : w < 4294967296) : Met l yX0_doubled wsX0_doubled ({ frames := 0, cells := 0, slots := 0, locals := 0 }) (va_Pc [.int (nI w)] (fun _ => True)) (QcRead (nI (dblW w))) 0 0 (fun _ => False) := by
  refine Met.ofW (cc := cX0_doubled) (maxL := 1) (ret := (some .int)) (by decide) rfl ?_
  intro p e s m args below meth c s₁ B9 hml hv
  obtain ⟨rfl, -⟩ := hv
  have hx := B9.exec
  have hb := B9.bytes
  have hr := B9.returns
  have hts := atoms_spec (ws := wsX0_doubled) B9.pre
  have hown : s.vm.findClass RX0 = some m.cls := findClass_of_methodNamed B9.named
  have hlocks := B9.notSynchronized
  have hl := lv_entry ([.int (nI w)]) (n := 1) (Nat.le_of_ble_eq_true rfl)
  rw [lg_entry_eq]
  generalize (lg_sl ([.int (nI w)]) ++ List.replicate (1 - (lg_sl ([.int (nI w)])).length) Slot.unset).toArray = ls at hl ⊢
  have hl : lv_has ls 1 [(0, .int (nI w))] := hl
  refine lv_iload_n hx hb dX0_doubled_0 rfl (lv_at hl 0 rfl) ?_
  refine lv_ldc (own := RX0) (v := (2139062143 : Int32)) hx hb hown (hts (.constant RX0 57 (2139062143)) (by decide +kernel)) dX0_doubled_1 ?_
  refine gv_top (y := nI 2139062143) (by decide +kernel) ?_
  refine gv_iand (r := w &&& 2139062143) hx hb dX0_doubled_3 rfl ?_
  refine lv_iconst (v := nI 1) hx hb dX0_doubled_4 (by decide) ?_
  refine gv_ishl (r := (w &&& 2139062143) * 2) hx hb dX0_doubled_5 (by omega) rfl ?_
  refine lv_iload_n hx hb dX0_doubled_6 rfl (lv_at hl 0 rfl) ?_
  refine lv_bipush (v := nI 7) hx hb dX0_doubled_7 (by decide) ?_
  refine gv_iushr (r := w / 128) hx hb dX0_doubled_9 (by omega) (by omega) rfl ?_
  refine lv_ldc (own := RX0) (v := (16843009 : Int32)) hx hb hown (hts (.constant RX0 58 (16843009)) (by decide +kernel)) dX0_doubled_10 ?_
  refine gv_top (y := nI 16843009) (by decide +kernel) ?_
  refine gv_iand (r := (w / 128) &&& 16843009) hx hb dX0_doubled_12 rfl ?_
  refine lv_bipush (v := nI 27) hx hb dX0_doubled_13 (by decide) ?_
  refine gv_imul (r := ((w / 128) &&& 16843009) * 27) hx hb dX0_doubled_15 rfl ?_
  refine gv_ixor (r := ((w &&& 2139062143) * 2) ^^^ (((w / 128) &&& 16843009) * 27)) hx hb dX0_doubled_16 rfl ?_
  refine gv_top (y := (nI (dblW w))) rfl ?_
  exact W.iret (v := (nI (dblW w))) hx hb hr (fun t ht hW => ⟨rfl, ht⟩) (fun q h => by cases h) dX0_doubled_17

set_option maxHeartbeats 4000000 in
set_option maxRecDepth 100000 in
/-- mixed(word), byte by byte -/
theorem c_X0_mixed (l : Launch) (b0 : Nat) (b1 : Nat) (b2 : Nat) (b3 : Nat) (h0 : b0 < 256) (h1 : b1 < 256) (h2 : b2 < 256) (h3 : b3 < 256) : Met l yX0_mixed wsX0_mixed ({ frames := 1, cells := 0, slots := 0, locals := 21 }) (va_Pc [.int (nI (pk b0 b1 b2 b3))] (fun _ => True)) (QcRead (nI (pk (mxB b0 b1 b2 b3) (mxB b1 b2 b3 b0) (mxB b2 b3 b0 b1) (mxB b3 b0 b1 b2)))) 0 0 (fun _ => False) := by
  refine Met.ofW (cc := cX0_mixed) (maxL := 2) (ret := (some .int)) (by decide) rfl ?_
  intro p e s m args below meth c s₁ B9 hml hv
  obtain ⟨rfl, -⟩ := hv
  have hx := B9.exec
  have hb := B9.bytes
  have hr := B9.returns
  have hts := atoms_spec (ws := wsX0_mixed) B9.pre
  have hown : s.vm.findClass RX0 = some m.cls := findClass_of_methodNamed B9.named
  have hlocks := B9.notSynchronized
  have hl := lv_entry ([.int (nI (pk b0 b1 b2 b3))]) (n := 2) (Nat.le_of_ble_eq_true rfl)
  rw [lg_entry_eq]
  generalize (lg_sl ([.int (nI (pk b0 b1 b2 b3))]) ++ List.replicate (2 - (lg_sl ([.int (nI (pk b0 b1 b2 b3))])).length) Slot.unset).toArray = ls at hl ⊢
  have hl : lv_has ls 2 [(0, .int (nI (pk b0 b1 b2 b3)))] := hl
  have k0 := x2_lt b0 h0
  have k1 := x2_lt b1 h1
  have k2 := x2_lt b2 h2
  have k3 := x2_lt b3 h3
  have g0 := wz_x8 k0 h0
  have g1 := wz_x8 k1 h1
  have g2 := wz_x8 k2 h2
  have g3 := wz_x8 k3 h3
  refine lv_iload_n hx hb dX0_mixed_0 rfl (lv_at hl 0 rfl) ?_
  refine gv_callR (W.runS (As := [.int (nI (pk b0 b1 b2 b3))]) (rest := []) ⟨hx, hb, hml, hown, hts⟩ (c_X0_doubled l (pk b0 b1 b2 b3) (pkw_lt h0 h1 h2 h3)) (va_cwS 1 hts gX0_mixed_X0_doubled rfl rfl rfl (by decide +kernel) ⟨Nat.le_of_ble_eq_true rfl, Nat.le_of_ble_eq_true rfl⟩) ⟨fun a U g mk q => q, fun U hU hW => ⟨rfl, trivial⟩⟩ rfl rfl hl.1 rfl (lv_room (Nat.le_of_ble_eq_true rfl)) dX0_mixed_1 ⟨Nat.zero_le _, Nat.zero_le _⟩) ?_
  refine gv_top (y := nI (pk (x2 b0) (x2 b1) (x2 b2) (x2 b3))) (congrArg nI (dbl_pk h0 h1 h2 h3)) ?_
  refine lv_istore_n (lv' := [(1, .int (nI (pk (x2 b0) (x2 b1) (x2 b2) (x2 b3)))), (0, .int (nI (pk b0 b1 b2 b3)))]) hx hb dX0_mixed_4 rfl hl (by decide) rfl (fun ls hl => ?_)
  refine lv_iload_n hx hb dX0_mixed_5 rfl (lv_at hl 0 rfl) ?_
  refine lv_iload_n hx hb dX0_mixed_6 rfl (lv_at hl 0 rfl) ?_
  refine lv_iload_n hx hb dX0_mixed_7 rfl (lv_at hl 1 rfl) ?_
  refine gv_ixor (r := (pk (x2 b0) (x2 b1) (x2 b2) (x2 b3)) ^^^ (pk b0 b1 b2 b3)) hx hb dX0_mixed_8 rfl ?_
  refine gv_top (y := nI (pk (x2 b0 ^^^ b0) (x2 b1 ^^^ b1) (x2 b2 ^^^ b2) (x2 b3 ^^^ b3))) (congrArg nI (pkw_xor k1 k2 k3 h1 h2 h3)) ?_
  refine lv_bipush (v := nI 8) hx hb dX0_mixed_9 (by decide) ?_
  refine gv_callR (W.runS (As := [.int (nI (pk (x2 b0 ^^^ b0) (x2 b1 ^^^ b1) (x2 b2 ^^^ b2) (x2 b3 ^^^ b3))), .int (nI 8)]) (rest := [.int (nI (pk (x2 b0) (x2 b1) (x2 b2) (x2 b3)))]) ⟨hx, hb, hml, hown, hts⟩ (c_X0_rotated l (pk (x2 b0 ^^^ b0) (x2 b1 ^^^ b1) (x2 b2 ^^^ b2) (x2 b3 ^^^ b3)) 8 (pkw_lt g0 g1 g2 g3) (by decide) (by decide)) (va_cwS 2 hts gX0_mixed_X0_rotated rfl rfl rfl (by decide +kernel) ⟨Nat.le_of_ble_eq_true rfl, Nat.le_of_ble_eq_true rfl⟩) ⟨fun a U g mk q => q, fun U hU hW => ⟨rfl, trivial⟩⟩ rfl rfl hl.1 rfl (lv_room (Nat.le_of_ble_eq_true rfl)) dX0_mixed_11 ⟨Nat.zero_le _, Nat.zero_le _⟩) ?_
  refine gv_top (y := nI (pk (x2 b1 ^^^ b1) (x2 b2 ^^^ b2) (x2 b3 ^^^ b3) (x2 b0 ^^^ b0))) (rot8 g0 g1 g2 g3) ?_
  refine gv_ixor (r := (pk (x2 b0) (x2 b1) (x2 b2) (x2 b3)) ^^^ (pk (x2 b1 ^^^ b1) (x2 b2 ^^^ b2) (x2 b3 ^^^ b3) (x2 b0 ^^^ b0))) hx hb dX0_mixed_14 rfl ?_
  refine lv_iload_n hx hb dX0_mixed_15 rfl (lv_at hl 1 rfl) ?_
  refine lv_bipush (v := nI 16) hx hb dX0_mixed_16 (by decide) ?_
  refine gv_callR (W.runS (As := [.int (nI (pk b0 b1 b2 b3)), .int (nI 16)]) (rest := [.int (nI ((pk (x2 b0) (x2 b1) (x2 b2) (x2 b3)) ^^^ (pk (x2 b1 ^^^ b1) (x2 b2 ^^^ b2) (x2 b3 ^^^ b3) (x2 b0 ^^^ b0))))]) ⟨hx, hb, hml, hown, hts⟩ (c_X0_rotated l (pk b0 b1 b2 b3) 16 (pkw_lt h0 h1 h2 h3) (by decide) (by decide)) (va_cwS 2 hts gX0_mixed_X0_rotated rfl rfl rfl (by decide +kernel) ⟨Nat.le_of_ble_eq_true rfl, Nat.le_of_ble_eq_true rfl⟩) ⟨fun a U g mk q => q, fun U hU hW => ⟨rfl, trivial⟩⟩ rfl rfl hl.1 rfl (lv_room (Nat.le_of_ble_eq_true rfl)) dX0_mixed_18 ⟨Nat.zero_le _, Nat.zero_le _⟩) ?_
  refine gv_top (y := nI (pk b2 b3 b0 b1)) (rot16 h0 h1 h2 h3) ?_
  refine gv_ixor (r := ((pk (x2 b0) (x2 b1) (x2 b2) (x2 b3)) ^^^ (pk (x2 b1 ^^^ b1) (x2 b2 ^^^ b2) (x2 b3 ^^^ b3) (x2 b0 ^^^ b0))) ^^^ (pk b2 b3 b0 b1)) hx hb dX0_mixed_21 rfl ?_
  refine lv_iload_n hx hb dX0_mixed_22 rfl (lv_at hl 1 rfl) ?_
  refine lv_bipush (v := nI 24) hx hb dX0_mixed_23 (by decide) ?_
  refine gv_callR (W.runS (As := [.int (nI (pk b0 b1 b2 b3)), .int (nI 24)]) (rest := [.int (nI (((pk (x2 b0) (x2 b1) (x2 b2) (x2 b3)) ^^^ (pk (x2 b1 ^^^ b1) (x2 b2 ^^^ b2) (x2 b3 ^^^ b3) (x2 b0 ^^^ b0))) ^^^ (pk b2 b3 b0 b1)))]) ⟨hx, hb, hml, hown, hts⟩ (c_X0_rotated l (pk b0 b1 b2 b3) 24 (pkw_lt h0 h1 h2 h3) (by decide) (by decide)) (va_cwS 2 hts gX0_mixed_X0_rotated rfl rfl rfl (by decide +kernel) ⟨Nat.le_of_ble_eq_true rfl, Nat.le_of_ble_eq_true rfl⟩) ⟨fun a U g mk q => q, fun U hU hW => ⟨rfl, trivial⟩⟩ rfl rfl hl.1 rfl (lv_room (Nat.le_of_ble_eq_true rfl)) dX0_mixed_25 ⟨Nat.zero_le _, Nat.zero_le _⟩) ?_
  refine gv_top (y := nI (pk b3 b0 b1 b2)) (rot24 h0 h1 h2 h3) ?_
  refine gv_ixor (r := (((pk (x2 b0) (x2 b1) (x2 b2) (x2 b3)) ^^^ (pk (x2 b1 ^^^ b1) (x2 b2 ^^^ b2) (x2 b3 ^^^ b3) (x2 b0 ^^^ b0))) ^^^ (pk b2 b3 b0 b1)) ^^^ (pk b3 b0 b1 b2)) hx hb dX0_mixed_28 rfl ?_
  refine gv_top (y := (nI (pk (mxB b0 b1 b2 b3) (mxB b1 b2 b3 b0) (mxB b2 b3 b0 b1) (mxB b3 b0 b1 b2)))) (congrArg nI (mix_pk h0 h1 h2 h3)) ?_
  exact W.iret (v := (nI (pk (mxB b0 b1 b2 b3) (mxB b1 b2 b3 b0) (mxB b2 b3 b0 b1) (mxB b3 b0 b1 b2)))) hx hb hr (fun t ht hW => ⟨rfl, ht⟩) (fun q h => by cases h) dX0_mixed_29

set_option maxHeartbeats 4000000 in
set_option maxRecDepth 100000 in
/-- bytesTurned(word) -/
theorem c_X0_bytesTurned (l : Launch) (b0 : Nat) (b1 : Nat) (b2 : Nat) (b3 : Nat) (h0 : b0 < 256) (h1 : b1 < 256) (h2 : b2 < 256) (h3 : b3 < 256) : Met l yX0_bytesTurned wsX0_bytesTurned ({ frames := 1, cells := 0, slots := 0, locals := 21 }) (va_Pc [.int (nI (pk b0 b1 b2 b3))] (fun _ => True)) (QcRead (nI (pk b3 b2 b1 b0))) 0 0 (fun _ => False) := by
  refine Met.ofW (cc := cX0_bytesTurned) (maxL := 1) (ret := (some .int)) (by decide) rfl ?_
  intro p e s m args below meth c s₁ B9 hml hv
  obtain ⟨rfl, -⟩ := hv
  have hx := B9.exec
  have hb := B9.bytes
  have hr := B9.returns
  have hts := atoms_spec (ws := wsX0_bytesTurned) B9.pre
  have hown : s.vm.findClass RX0 = some m.cls := findClass_of_methodNamed B9.named
  have hlocks := B9.notSynchronized
  have hl := lv_entry ([.int (nI (pk b0 b1 b2 b3))]) (n := 1) (Nat.le_of_ble_eq_true rfl)
  rw [lg_entry_eq]
  generalize (lg_sl ([.int (nI (pk b0 b1 b2 b3))]) ++ List.replicate (1 - (lg_sl ([.int (nI (pk b0 b1 b2 b3))])).length) Slot.unset).toArray = ls at hl ⊢
  have hl : lv_has ls 1 [(0, .int (nI (pk b0 b1 b2 b3)))] := hl
  refine lv_iload_n hx hb dX0_bytesTurned_0 rfl (lv_at hl 0 rfl) ?_
  refine lv_bipush (v := nI 8) hx hb dX0_bytesTurned_1 (by decide) ?_
  refine gv_callR (W.runS (As := [.int (nI (pk b0 b1 b2 b3)), .int (nI 8)]) (rest := []) ⟨hx, hb, hml, hown, hts⟩ (c_X0_rotated l (pk b0 b1 b2 b3) 8 (pkw_lt h0 h1 h2 h3) (by decide) (by decide)) (va_cwS 2 hts gX0_bytesTurned_X0_rotated rfl rfl rfl (by decide +kernel) ⟨Nat.le_of_ble_eq_true rfl, Nat.le_of_ble_eq_true rfl⟩) ⟨fun a U g mk q => q, fun U hU hW => ⟨rfl, trivial⟩⟩ rfl rfl hl.1 rfl (lv_room (Nat.le_of_ble_eq_true rfl)) dX0_bytesTurned_3 ⟨Nat.zero_le _, Nat.zero_le _⟩) ?_
  refine gv_top (y := nI (pk b1 b2 b3 b0)) (rot8 h0 h1 h2 h3) ?_
  refine lv_ldc (own := RX0) (v := (16711935 : Int32)) hx hb hown (hts (.constant RX0 59 (16711935)) (by decide +kernel)) dX0_bytesTurned_6 ?_
  refine gv_top (y := nI 16711935) (by decide +kernel) ?_
  refine gv_iand (r := (pk b1 b2 b3 b0) &&& 16711935) hx hb dX0_bytesTurned_8 rfl ?_
  refine lv_iload_n hx hb dX0_bytesTurned_9 rfl (lv_at hl 0 rfl) ?_
  refine lv_bipush (v := nI 24) hx hb dX0_bytesTurned_10 (by decide) ?_
  refine gv_callR (W.runS (As := [.int (nI (pk b0 b1 b2 b3)), .int (nI 24)]) (rest := [.int (nI ((pk b1 b2 b3 b0) &&& 16711935))]) ⟨hx, hb, hml, hown, hts⟩ (c_X0_rotated l (pk b0 b1 b2 b3) 24 (pkw_lt h0 h1 h2 h3) (by decide) (by decide)) (va_cwS 2 hts gX0_bytesTurned_X0_rotated rfl rfl rfl (by decide +kernel) ⟨Nat.le_of_ble_eq_true rfl, Nat.le_of_ble_eq_true rfl⟩) ⟨fun a U g mk q => q, fun U hU hW => ⟨rfl, trivial⟩⟩ rfl rfl hl.1 rfl (lv_room (Nat.le_of_ble_eq_true rfl)) dX0_bytesTurned_12 ⟨Nat.zero_le _, Nat.zero_le _⟩) ?_
  refine gv_top (y := nI (pk b3 b0 b1 b2)) (rot24 h0 h1 h2 h3) ?_
  refine lv_ldc (own := RX0) (v := (-16711936 : Int32)) hx hb hown (hts (.constant RX0 60 (-16711936)) (by decide +kernel)) dX0_bytesTurned_15 ?_
  refine gv_top (y := nI 4278255360) (by decide +kernel) ?_
  refine gv_iand (r := (pk b3 b0 b1 b2) &&& 4278255360) hx hb dX0_bytesTurned_17 rfl ?_
  refine gv_ior (r := ((pk b1 b2 b3 b0) &&& 16711935) ||| ((pk b3 b0 b1 b2) &&& 4278255360)) hx hb dX0_bytesTurned_18 rfl ?_
  refine gv_top (y := (nI (pk b3 b2 b1 b0))) (congrArg nI (trn_pk h0 h1 h2 h3)) ?_
  exact W.iret (v := (nI (pk b3 b2 b1 b0))) hx hb hr (fun t ht hW => ⟨rfl, ht⟩) (fun q h => by cases h) dX0_bytesTurned_19

set_option maxHeartbeats 4000000 in
set_option maxRecDepth 100000 in
/-- substituted(word) -/
theorem c_X0_substituted (l : Launch) (tS : Nat) (b0 : Nat) (b1 : Nat) (b2 : Nat) (b3 : Nat) (h0 : b0 < 256) (h1 : b1 < 256) (h2 : b2 < 256) (h3 : b3 < 256) : Met l yX0_substituted wsX0_substituted ({ frames := 0, cells := 0, slots := 0, locals := 0 }) (va_Pc [.int (nI (pk b0 b1 b2 b3))] (fun U => gE tS (fun _ => False) U U.heap)) (QcRead (nI (pk (sB b0) (sB b1) (sB b2) (sB b3)))) 0 0 (fun _ => False) := by
  refine Met.ofW (cc := cX0_substituted) (maxL := 1) (ret := (some .int)) (by decide) rfl ?_
  intro p e s m args below meth c s₁ B9 hml hv
  obtain ⟨rfl, hE⟩ := hv
  have hx := B9.exec
  have hb := B9.bytes
  have hr := B9.returns
  have hts := atoms_spec (ws := wsX0_substituted) B9.pre
  have hown : s.vm.findClass RX0 = some m.cls := findClass_of_methodNamed B9.named
  have hlocks := B9.notSynchronized
  have hl := lv_entry ([.int (nI (pk b0 b1 b2 b3))]) (n := 1) (Nat.le_of_ble_eq_true rfl)
  rw [lg_entry_eq]
  generalize (lg_sl ([.int (nI (pk b0 b1 b2 b3))]) ++ List.replicate (1 - (lg_sl ([.int (nI (pk b0 b1 b2 b3))])).length) Slot.unset).toArray = ls at hl ⊢
  have hl : lv_has ls 1 [(0, .int (nI (pk b0 b1 b2 b3)))] := hl
  have hw := pkw_lt h0 h1 h2 h3
  refine va_gets (own := RX0) (C := RX0) (n := "S") (d := "[I") (v := .ref tS) hx hb hE.2.1 (va_S.rf) hown (hts (.fieldLink RX0 54 "NumeralCipher$BlockCipher" "S" "[I") (by decide +kernel)) (fun _ h => h) dX0_substituted_0 ?_
  refine lv_iload_n hx hb dX0_substituted_3 rfl (lv_at hl 0 rfl) ?_
  refine lv_bipush (v := nI 24) hx hb dX0_substituted_4 (by decide) ?_
  refine gv_iushr (r := (pk b0 b1 b2 b3) / 16777216) hx hb dX0_substituted_6 (by omega) (by omega) rfl ?_
  refine gv_top (y := nI b0) (congrArg nI (pkw_0 h1 h2 h3)) ?_
  refine gv_tab hx hb hE (va_S.rf) (by omega) dX0_substituted_7 ?_
  refine lv_bipush (v := nI 24) hx hb dX0_substituted_8 (by decide) ?_
  refine gv_ishl (r := (sB b0) * 16777216) hx hb dX0_substituted_10 (by omega) rfl ?_
  refine va_gets (own := RX0) (C := RX0) (n := "S") (d := "[I") (v := .ref tS) hx hb hE.2.1 (va_S.rf) hown (hts (.fieldLink RX0 54 "NumeralCipher$BlockCipher" "S" "[I") (by decide +kernel)) (fun _ h => h) dX0_substituted_11 ?_
  refine lv_iload_n hx hb dX0_substituted_14 rfl (lv_at hl 0 rfl) ?_
  refine lv_bipush (v := nI 16) hx hb dX0_substituted_15 (by decide) ?_
  refine gv_iushr (r := (pk b0 b1 b2 b3) / 65536) hx hb dX0_substituted_17 (by omega) (by omega) rfl ?_
  refine lv_sipush (v := nI 255) hx hb dX0_substituted_18 (by decide) ?_
  refine gv_iand (r := ((pk b0 b1 b2 b3) / 65536) &&& 255) hx hb dX0_substituted_21 rfl ?_
  refine gv_top (y := nI b1) (congrArg nI ((wz_255 _).trans (pkw_1 h1 h2 h3))) ?_
  refine gv_tab hx hb hE (va_S.rf) (by omega) dX0_substituted_22 ?_
  refine lv_bipush (v := nI 16) hx hb dX0_substituted_23 (by decide) ?_
  refine gv_ishl (r := (sB b1) * 65536) hx hb dX0_substituted_25 (by omega) rfl ?_
  refine gv_ior (r := ((sB b0) * 16777216) ||| ((sB b1) * 65536)) hx hb dX0_substituted_26 rfl ?_
  refine va_gets (own := RX0) (C := RX0) (n := "S") (d := "[I") (v := .ref tS) hx hb hE.2.1 (va_S.rf) hown (hts (.fieldLink RX0 54 "NumeralCipher$BlockCipher" "S" "[I") (by decide +kernel)) (fun _ h => h) dX0_substituted_27 ?_
  refine lv_iload_n hx hb dX0_substituted_30 rfl (lv_at hl 0 rfl) ?_
  refine lv_bipush (v := nI 8) hx hb dX0_substituted_31 (by decide) ?_
  refine gv_iushr (r := (pk b0 b1 b2 b3) / 256) hx hb dX0_substituted_33 (by omega) (by omega) rfl ?_
  refine lv_sipush (v := nI 255) hx hb dX0_substituted_34 (by decide) ?_
  refine gv_iand (r := ((pk b0 b1 b2 b3) / 256) &&& 255) hx hb dX0_substituted_37 rfl ?_
  refine gv_top (y := nI b2) (congrArg nI ((wz_255 _).trans (pkw_2 h2 h3))) ?_
  refine gv_tab hx hb hE (va_S.rf) (by omega) dX0_substituted_38 ?_
  refine lv_bipush (v := nI 8) hx hb dX0_substituted_39 (by decide) ?_
  refine gv_ishl (r := (sB b2) * 256) hx hb dX0_substituted_41 (by omega) rfl ?_
  refine gv_ior (r := (((sB b0) * 16777216) ||| ((sB b1) * 65536)) ||| ((sB b2) * 256)) hx hb dX0_substituted_42 rfl ?_
  refine va_gets (own := RX0) (C := RX0) (n := "S") (d := "[I") (v := .ref tS) hx hb hE.2.1 (va_S.rf) hown (hts (.fieldLink RX0 54 "NumeralCipher$BlockCipher" "S" "[I") (by decide +kernel)) (fun _ h => h) dX0_substituted_43 ?_
  refine lv_iload_n hx hb dX0_substituted_46 rfl (lv_at hl 0 rfl) ?_
  refine lv_sipush (v := nI 255) hx hb dX0_substituted_47 (by decide) ?_
  refine gv_iand (r := (pk b0 b1 b2 b3) &&& 255) hx hb dX0_substituted_50 rfl ?_
  refine gv_top (y := nI b3) (congrArg nI ((wz_255 _).trans (pkw_3 h3))) ?_
  refine gv_tab hx hb hE (va_S.rf) (by omega) dX0_substituted_51 ?_
  refine gv_ior (r := ((((sB b0) * 16777216) ||| ((sB b1) * 65536)) ||| ((sB b2) * 256)) ||| (sB b3)) hx hb dX0_substituted_52 rfl ?_
  refine gv_top (y := (nI (pk (sB b0) (sB b1) (sB b2) (sB b3)))) (congrArg nI (pkw_lay (sB_lt _ h0) (sB_lt _ h1) (sB_lt _ h2) (sB_lt _ h3))) ?_
  exact W.iret (v := (nI (pk (sB b0) (sB b1) (sB b2) (sB b3)))) hx hb hr (fun t ht hW => ⟨rfl, ht⟩) (fun q h => by cases h) dX0_substituted_53

set_option maxHeartbeats 4000000 in
set_option maxRecDepth 100000 in
/-- diagonal(block, c) -/
theorem c_X0_diagonal (l : Launch) (dC : Nat → ClassId) (dI : Nat → Nat → Nat) (cI : ClassId) (sz : Nat) (bl : Nat) (b : Nat → Nat) (Bk : Nat → Nat) (k : Nat) (hk : k < 4) (hb0 : ∀ k, k < 4 → b k = pkf Bk k) (hB : ∀ j, j < 16 → Bk j < 256) : Met l yX0_diagonal wsX0_diagonal ({ frames := 0, cells := 0, slots := 0, locals := 0 }) (gPc dC dI cI [.ref bl, .int (nI k)] [(bl, .inl (cI, 4, .inl (gA b)))] sz) (QcRead (nI (pk (Bk (4 * k)) (Bk (4 * ((k + 1) % 4) + 1)) (Bk (4 * ((k + 2) % 4) + 2)) (Bk (4 * ((k + 3) % 4) + 3))))) 0 0 (fun _ => False) := by
  refine Met.ofW (cc := cX0_diagonal) (maxL := 2) (ret := (some .int)) (by decide) rfl ?_
  intro p e s m args below meth c s₁ B9 hml hv
  obtain ⟨rfl, hsz, ⟨hP, hK, hD0⟩⟩ := hv
  have hx := B9.exec
  have hb := B9.bytes
  have hr := B9.returns
  have hts := atoms_spec (ws := wsX0_diagonal) B9.pre
  have hown : s.vm.findClass RX0 = some m.cls := findClass_of_methodNamed B9.named
  have hlocks := B9.notSynchronized
  subst hsz
  have hD := hD0.self (sz := s.heap.size)
  generalize hAe : va_A [(bl, .inl (cI, 4, .inl (gA b)))] s.heap.size = A at hD
  have hA : ∀ q : Nat, s.heap.size ≤ q → A q := fun q h => by rw [← hAe]; exact Or.inr h
  have hS : va_S A s.heap s.heap [] := va_S.rf
  have hl := lv_entry ([.ref bl, .int (nI k)]) (n := 2) (Nat.le_of_ble_eq_true rfl)
  rw [lg_entry_eq]
  generalize (lg_sl ([.ref bl, .int (nI k)]) ++ List.replicate (2 - (lg_sl ([.ref bl, .int (nI k)])).length) Slot.unset).toArray = ls at hl ⊢
  have hl : lv_has ls 2 [(0, .ref bl), (1, .int (nI k))] := hl
  have d0 := pkf_b (c := k) hB (by omega)
  have d1 := pkf_b (c := (k + 1) % 4) hB (by omega)
  have d2 := pkf_b (c := (k + 2) % 4) hB (by omega)
  have d3 := pkf_b (c := (k + 3) % 4) hB (by omega)
  refine lv_aload_n hx hb dX0_diagonal_0 rfl (lv_at hl 0 rfl) ?_
  refine lv_iload_n hx hb dX0_diagonal_1 rfl (lv_at hl 1 rfl) ?_
  refine gv_iald hx hb hK hP 0 0 rfl rfl (by omega) (by omega) dX0_diagonal_2 ?_
  refine lv_ldc (own := RX0) (v := (-16777216 : Int32)) hx hb hown (hts (.constant RX0 51 (-16777216)) (by decide +kernel)) dX0_diagonal_3 ?_
  refine gv_top (y := nI 4278190080) (by decide +kernel) ?_
  refine gv_iand (r := (b k) &&& 4278190080) hx hb dX0_diagonal_5 rfl ?_
  refine gv_top (y := nI (pk (Bk (4 * k)) 0 0 0)) (congrArg nI ((congrArg (fun z => z &&& 4278190080) (hb0 k hk)).trans (pkw_m0 d0.1 d0.2.1 d0.2.2.1 d0.2.2.2))) ?_
  refine lv_aload_n hx hb dX0_diagonal_6 rfl (lv_at hl 0 rfl) ?_
  refine lv_iload_n hx hb dX0_diagonal_7 rfl (lv_at hl 1 rfl) ?_
  refine lv_iconst (v := nI 1) hx hb dX0_diagonal_8 (by decide) ?_
  refine gv_iadd (r := k + 1) hx hb dX0_diagonal_9 rfl ?_
  refine lv_iconst (v := nI 4) hx hb dX0_diagonal_10 (by decide) ?_
  refine gv_irem (r := (k + 1) % 4) hx hb dX0_diagonal_11 (by omega) (by omega) (by omega) rfl ?_
  refine gv_iald hx hb hK hP 0 0 rfl rfl (by omega) (by omega) dX0_diagonal_12 ?_
  refine lv_ldc (own := RX0) (v := (16711680 : Int32)) hx hb hown (hts (.constant RX0 52 (16711680)) (by decide +kernel)) dX0_diagonal_13 ?_
  refine gv_top (y := nI 16711680) (by decide +kernel) ?_
  refine gv_iand (r := (b ((k + 1) % 4)) &&& 16711680) hx hb dX0_diagonal_15 rfl ?_
  refine gv_top (y := nI (pk 0 (Bk (4 * ((k + 1) % 4) + 1)) 0 0)) (congrArg nI ((congrArg (fun z => z &&& 16711680) (hb0 _ (by omega))).trans (pkw_m1 d1.2.1 d1.2.2.1 d1.2.2.2))) ?_
  refine gv_ior (r := (pk (Bk (4 * k)) 0 0 0) ||| (pk 0 (Bk (4 * ((k + 1) % 4) + 1)) 0 0)) hx hb dX0_diagonal_16 rfl ?_
  refine lv_aload_n hx hb dX0_diagonal_17 rfl (lv_at hl 0 rfl) ?_
  refine lv_iload_n hx hb dX0_diagonal_18 rfl (lv_at hl 1 rfl) ?_
  refine lv_iconst (v := nI 2) hx hb dX0_diagonal_19 (by decide) ?_
  refine gv_iadd (r := k + 2) hx hb dX0_diagonal_20 rfl ?_
  refine lv_iconst (v := nI 4) hx hb dX0_diagonal_21 (by decide) ?_
  refine gv_irem (r := (k + 2) % 4) hx hb dX0_diagonal_22 (by omega) (by omega) (by omega) rfl ?_
  refine gv_iald hx hb hK hP 0 0 rfl rfl (by omega) (by omega) dX0_diagonal_23 ?_
  refine lv_ldc (own := RX0) (v := (65280 : Int32)) hx hb hown (hts (.constant RX0 53 (65280)) (by decide +kernel)) dX0_diagonal_24 ?_
  refine gv_top (y := nI 65280) (by decide +kernel) ?_
  refine gv_iand (r := (b ((k + 2) % 4)) &&& 65280) hx hb dX0_diagonal_26 rfl ?_
  refine gv_top (y := nI (pk 0 0 (Bk (4 * ((k + 2) % 4) + 2)) 0)) (congrArg nI ((congrArg (fun z => z &&& 65280) (hb0 _ (by omega))).trans (pkw_m2 d2.2.1 d2.2.2.1 d2.2.2.2))) ?_
  refine gv_ior (r := ((pk (Bk (4 * k)) 0 0 0) ||| (pk 0 (Bk (4 * ((k + 1) % 4) + 1)) 0 0)) ||| (pk 0 0 (Bk (4 * ((k + 2) % 4) + 2)) 0)) hx hb dX0_diagonal_27 rfl ?_
  refine lv_aload_n hx hb dX0_diagonal_28 rfl (lv_at hl 0 rfl) ?_
  refine lv_iload_n hx hb dX0_diagonal_29 rfl (lv_at hl 1 rfl) ?_
  refine lv_iconst (v := nI 3) hx hb dX0_diagonal_30 (by decide) ?_
  refine gv_iadd (r := k + 3) hx hb dX0_diagonal_31 rfl ?_
  refine lv_iconst (v := nI 4) hx hb dX0_diagonal_32 (by decide) ?_
  refine gv_irem (r := (k + 3) % 4) hx hb dX0_diagonal_33 (by omega) (by omega) (by omega) rfl ?_
  refine gv_iald hx hb hK hP 0 0 rfl rfl (by omega) (by omega) dX0_diagonal_34 ?_
  refine lv_sipush (v := nI 255) hx hb dX0_diagonal_35 (by decide) ?_
  refine gv_iand (r := (b ((k + 3) % 4)) &&& 255) hx hb dX0_diagonal_38 rfl ?_
  refine gv_top (y := nI (pk 0 0 0 (Bk (4 * ((k + 3) % 4) + 3)))) (congrArg nI ((congrArg (fun z => z &&& 255) (hb0 _ (by omega))).trans (pkw_m3 d3.2.1 d3.2.2.1 d3.2.2.2))) ?_
  refine gv_ior (r := (((pk (Bk (4 * k)) 0 0 0) ||| (pk 0 (Bk (4 * ((k + 1) % 4) + 1)) 0 0)) ||| (pk 0 0 (Bk (4 * ((k + 2) % 4) + 2)) 0)) ||| (pk 0 0 0 (Bk (4 * ((k + 3) % 4) + 3)))) hx hb dX0_diagonal_39 rfl ?_
  refine gv_top (y := (nI (pk (Bk (4 * k)) (Bk (4 * ((k + 1) % 4) + 1)) (Bk (4 * ((k + 2) % 4) + 2)) (Bk (4 * ((k + 3) % 4) + 3))))) (congrArg nI (pkw_lay2 d1.2.1 d2.2.2.1 d3.2.2.2)) ?_
  exact W.iret (v := (nI (pk (Bk (4 * k)) (Bk (4 * ((k + 1) % 4) + 1)) (Bk (4 * ((k + 2) % 4) + 2)) (Bk (4 * ((k + 3) % 4) + 3))))) hx hb hr (fun t ht hW => ⟨rfl, ht⟩) (fun q h => by cases h) dX0_diagonal_40
