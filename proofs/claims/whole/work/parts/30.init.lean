set_option maxHeartbeats 4000000 in
set_option maxRecDepth 100000 in
/-- a new X1 -/
theorem c_X1_init (l : Launch) (dC : Nat → ClassId) (dI : Nat → Nat → Nat) (cI : ClassId) (sz : Nat) (o : Nat) : Met l yX1_init wsX1_init ({ frames := 1, cells := 1, slots := 64, locals := 24 }) (gPc dC dI cI [.ref o] [(o, .inr (1, [.null, .int (nI 0)]))] sz) (va_Qv (fun u : Nat => True) (fun u t => gB dC dI cI (va_A [(o, .inr (1, [.null, .int (nI 0)]))] sz) [(o, .inr (1, [.ref u, .int (nI 0)])), (u, .inl (cI, 64, .inl (gA (fun _ => 0))))] t) (va_A [(o, .inr (1, [.null, .int (nI 0)]))] sz)) 1 64 (va_A [(o, .inr (1, [.null, .int (nI 0)]))] sz) := by
  refine Met.ofW (cc := cX1_init) (maxL := 1) (ret := none) (by decide) rfl ?_
  intro p e s m args below meth c s₁ B9 hml hv
  obtain ⟨rfl, hsz, ⟨hP, hK, hD0⟩⟩ := hv
  have hx := B9.exec
  have hb := B9.bytes
  have hr := B9.returns
  have hts := atoms_spec (ws := wsX1_init) B9.pre
  have hown : s.vm.findClass RX1 = some m.cls := findClass_of_methodNamed B9.named
  have hlocks := B9.notSynchronized
  subst hsz
  have hD := hD0.self (sz := s.heap.size)
  generalize hAe : va_A [(o, .inr (1, [.null, .int (nI 0)]))] s.heap.size = A at hD ⊢
  have hA : ∀ q : Nat, s.heap.size ≤ q → A q := fun q h => by rw [← hAe]; exact Or.inr h
  have hS : va_S A s.heap s.heap [] := va_S.rf
  have hl := lv_entry ([.ref o]) (n := 1) (Nat.le_of_ble_eq_true rfl)
  rw [lg_entry_eq]
  generalize (lg_sl ([.ref o]) ++ List.replicate (1 - (lg_sl ([.ref o])).length) Slot.unset).toArray = ls at hl ⊢
  have hl : lv_has ls 1 [(0, .ref o)] := hl
  have hin9 : meth.name = "<init>" := (name_of_methodNamed B9.named B9.method).1
  refine lv_aload_n hx hb dX1_init_0 rfl (lv_at hl 0 rfl) ?_
  refine W.objInit hx hb hown (hts (.methodLink RX1 3 objectInit) (by decide +kernel)) (hts (.instanceMethod objectInit) (by decide +kernel)) (hts (.code objectInit ⟨#[0xb1]⟩ 1 none) (by decide +kernel)) rfl (by rw [hml]; exact hl.1) rfl dX1_init_1 (Nat.le_of_ble_eq_true rfl) (Nat.le_of_ble_eq_true rfl) ?_
  refine W.eq (g2 := F0 m 4 ls []) rfl ?_
  refine lv_aload_n hx hb dX1_init_4 rfl (lv_at hl 0 rfl) ?_
  refine lv_bipush (v := nI 64) hx hb dX1_init_5 (by decide) ?_
  refine gv_newi hx hb (hts (.arrayClass .int) (by decide +kernel)) hK hP hD hS hA (by decide) (Nat.le_of_ble_eq_true rfl) (Nat.le_of_ble_eq_true rfl) dX1_init_7 (fun q_1 H hP hD hS => ?_)
  have hP : va_P (dC, dI) vwCl [(o, .inr (1, [.null, .int (nI 0)])), (q_1, .inl (cI, 64, .inl (gA (fun _ => 0))))] H := hP
  have hD : va_D A [(o, .inr (1, [.null, .int (nI 0)])), (q_1, .inl (cI, 64, .inl (gA (fun _ => 0))))] := hD
  refine W.widen (k := 1) (n := 64) (by omega) (by omega) ?_
  refine va_putF (own := RX1) (D := (dC, dI)) (ci := 1) (C := RX1) (T := TX1) (N := 2) (v := .ref q_1) hx hb hts (by decide +kernel) tyX1 tyX1_ok nmX1 hown hK hP hD hS 0 rfl rfl 0 (by decide) (hts (.fieldLink RX1 9 "NumeralCipher$Bytes" "cells" "[I") (by decide +kernel)) (fun _ h9 => h9) rfl hin9 rfl (tyX1_ok 0 (by decide)) rfl rfl (Nat.le_of_ble_eq_true rfl) dX1_init_9 (fun H locs hP hD hS => ?_)
  have hP : va_P (dC, dI) vwCl [(o, .inr (1, [.ref q_1, .int (nI 0)])), (q_1, .inl (cI, 64, .inl (gA (fun _ => 0))))] H := hP
  have hD : va_D A [(o, .inr (1, [.ref q_1, .int (nI 0)])), (q_1, .inl (cI, 64, .inl (gA (fun _ => 0))))] := hD
  exact W.vret hx hb hr (fun t ht hW => ⟨⟨(q_1), rfl, trivial, gB_end ht hW hP hK hD⟩, hS.F ht⟩) hS.2.2 dX1_init_12

set_option maxHeartbeats 4000000 in
set_option maxRecDepth 100000 in
/-- a new X3 -/
theorem c_X3_init (l : Launch) (dC : Nat → ClassId) (dI : Nat → Nat → Nat) (cI : ClassId) (sz : Nat) (o : Nat) : Met l yX3_init wsX3_init ({ frames := 1, cells := 1, slots := 17, locals := 24 }) (gPc dC dI cI [.ref o] [(o, .inr (3, [.null, .int (nI 0)]))] sz) (va_Qv (fun u : Nat => True) (fun u t => gB dC dI cI (va_A [(o, .inr (3, [.null, .int (nI 0)]))] sz) [(o, .inr (3, [.ref u, .int (nI 0)])), (u, .inl (cI, 17, .inl (gA (fun _ => 0))))] t) (va_A [(o, .inr (3, [.null, .int (nI 0)]))] sz)) 1 17 (va_A [(o, .inr (3, [.null, .int (nI 0)]))] sz) := by
  refine Met.ofW (cc := cX3_init) (maxL := 1) (ret := none) (by decide) rfl ?_
  intro p e s m args below meth c s₁ B9 hml hv
  obtain ⟨rfl, hsz, ⟨hP, hK, hD0⟩⟩ := hv
  have hx := B9.exec
  have hb := B9.bytes
  have hr := B9.returns
  have hts := atoms_spec (ws := wsX3_init) B9.pre
  have hown : s.vm.findClass RX3 = some m.cls := findClass_of_methodNamed B9.named
  have hlocks := B9.notSynchronized
  subst hsz
  have hD := hD0.self (sz := s.heap.size)
  generalize hAe : va_A [(o, .inr (3, [.null, .int (nI 0)]))] s.heap.size = A at hD ⊢
  have hA : ∀ q : Nat, s.heap.size ≤ q → A q := fun q h => by rw [← hAe]; exact Or.inr h
  have hS : va_S A s.heap s.heap [] := va_S.rf
  have hl := lv_entry ([.ref o]) (n := 1) (Nat.le_of_ble_eq_true rfl)
  rw [lg_entry_eq]
  generalize (lg_sl ([.ref o]) ++ List.replicate (1 - (lg_sl ([.ref o])).length) Slot.unset).toArray = ls at hl ⊢
  have hl : lv_has ls 1 [(0, .ref o)] := hl
  have hin9 : meth.name = "<init>" := (name_of_methodNamed B9.named B9.method).1
  refine lv_aload_n hx hb dX3_init_0 rfl (lv_at hl 0 rfl) ?_
  refine W.objInit hx hb hown (hts (.methodLink RX3 1 objectInit) (by decide +kernel)) (hts (.instanceMethod objectInit) (by decide +kernel)) (hts (.code objectInit ⟨#[0xb1]⟩ 1 none) (by decide +kernel)) rfl (by rw [hml]; exact hl.1) rfl dX3_init_1 (Nat.le_of_ble_eq_true rfl) (Nat.le_of_ble_eq_true rfl) ?_
  refine W.eq (g2 := F0 m 4 ls []) rfl ?_
  refine lv_aload_n hx hb dX3_init_4 rfl (lv_at hl 0 rfl) ?_
  refine lv_bipush (v := nI 17) hx hb dX3_init_5 (by decide) ?_
  refine gv_newi hx hb (hts (.arrayClass .int) (by decide +kernel)) hK hP hD hS hA (by decide) (Nat.le_of_ble_eq_true rfl) (Nat.le_of_ble_eq_true rfl) dX3_init_7 (fun q_1 H hP hD hS => ?_)
  have hP : va_P (dC, dI) vwCl [(o, .inr (3, [.null, .int (nI 0)])), (q_1, .inl (cI, 17, .inl (gA (fun _ => 0))))] H := hP
  have hD : va_D A [(o, .inr (3, [.null, .int (nI 0)])), (q_1, .inl (cI, 17, .inl (gA (fun _ => 0))))] := hD
  refine W.widen (k := 1) (n := 17) (by omega) (by omega) ?_
  refine va_putF (own := RX3) (D := (dC, dI)) (ci := 3) (C := RX3) (T := TX3) (N := 2) (v := .ref q_1) hx hb hts (by decide +kernel) tyX3 tyX3_ok nmX3 hown hK hP hD hS 0 rfl rfl 0 (by decide) (hts (.fieldLink RX3 9 "NumeralCipher$Natural" "cells" "[I") (by decide +kernel)) (fun _ h9 => h9) rfl hin9 rfl (tyX3_ok 0 (by decide)) rfl rfl (Nat.le_of_ble_eq_true rfl) dX3_init_9 (fun H locs hP hD hS => ?_)
  have hP : va_P (dC, dI) vwCl [(o, .inr (3, [.ref q_1, .int (nI 0)])), (q_1, .inl (cI, 17, .inl (gA (fun _ => 0))))] H := hP
  have hD : va_D A [(o, .inr (3, [.ref q_1, .int (nI 0)])), (q_1, .inl (cI, 17, .inl (gA (fun _ => 0))))] := hD
  exact W.vret hx hb hr (fun t ht hW => ⟨⟨(q_1), rfl, trivial, gB_end ht hW hP hK hD⟩, hS.F ht⟩) hS.2.2 dX3_init_12

set_option maxHeartbeats 4000000 in
set_option maxRecDepth 100000 in
/-- a new X4 -/
theorem c_X4_init (l : Launch) (dC : Nat → ClassId) (dI : Nat → Nat → Nat) (cI : ClassId) (sz : Nat) (o : Nat) : Met l yX4_init wsX4_init ({ frames := 1, cells := 1, slots := 64, locals := 24 }) (gPc dC dI cI [.ref o] [(o, .inr (4, [.null, .int (nI 0), .int (nI 0)]))] sz) (va_Qv (fun u : Nat => True) (fun u t => gB dC dI cI (va_A [(o, .inr (4, [.null, .int (nI 0), .int (nI 0)]))] sz) [(o, .inr (4, [.ref u, .int (nI 0), .int (nI 10)])), (u, .inl (cI, 64, .inl (gA (fun _ => 0))))] t) (va_A [(o, .inr (4, [.null, .int (nI 0), .int (nI 0)]))] sz)) 1 64 (va_A [(o, .inr (4, [.null, .int (nI 0), .int (nI 0)]))] sz) := by
  refine Met.ofW (cc := cX4_init) (maxL := 1) (ret := none) (by decide) rfl ?_
  intro p e s m args below meth c s₁ B9 hml hv
  obtain ⟨rfl, hsz, ⟨hP, hK, hD0⟩⟩ := hv
  have hx := B9.exec
  have hb := B9.bytes
  have hr := B9.returns
  have hts := atoms_spec (ws := wsX4_init) B9.pre
  have hown : s.vm.findClass RX4 = some m.cls := findClass_of_methodNamed B9.named
  have hlocks := B9.notSynchronized
  subst hsz
  have hD := hD0.self (sz := s.heap.size)
  generalize hAe : va_A [(o, .inr (4, [.null, .int (nI 0), .int (nI 0)]))] s.heap.size = A at hD ⊢
  have hA : ∀ q : Nat, s.heap.size ≤ q → A q := fun q h => by rw [← hAe]; exact Or.inr h
  have hS : va_S A s.heap s.heap [] := va_S.rf
  have hl := lv_entry ([.ref o]) (n := 1) (Nat.le_of_ble_eq_true rfl)
  rw [lg_entry_eq]
  generalize (lg_sl ([.ref o]) ++ List.replicate (1 - (lg_sl ([.ref o])).length) Slot.unset).toArray = ls at hl ⊢
  have hl : lv_has ls 1 [(0, .ref o)] := hl
  have hin9 : meth.name = "<init>" := (name_of_methodNamed B9.named B9.method).1
  refine lv_aload_n hx hb dX4_init_0 rfl (lv_at hl 0 rfl) ?_
  refine W.objInit hx hb hown (hts (.methodLink RX4 3 objectInit) (by decide +kernel)) (hts (.instanceMethod objectInit) (by decide +kernel)) (hts (.code objectInit ⟨#[0xb1]⟩ 1 none) (by decide +kernel)) rfl (by rw [hml]; exact hl.1) rfl dX4_init_1 (Nat.le_of_ble_eq_true rfl) (Nat.le_of_ble_eq_true rfl) ?_
  refine W.eq (g2 := F0 m 4 ls []) rfl ?_
  refine lv_aload_n hx hb dX4_init_4 rfl (lv_at hl 0 rfl) ?_
  refine lv_bipush (v := nI 64) hx hb dX4_init_5 (by decide) ?_
  refine gv_newi hx hb (hts (.arrayClass .int) (by decide +kernel)) hK hP hD hS hA (by decide) (Nat.le_of_ble_eq_true rfl) (Nat.le_of_ble_eq_true rfl) dX4_init_7 (fun q_1 H hP hD hS => ?_)
  have hP : va_P (dC, dI) vwCl [(o, .inr (4, [.null, .int (nI 0), .int (nI 0)])), (q_1, .inl (cI, 64, .inl (gA (fun _ => 0))))] H := hP
  have hD : va_D A [(o, .inr (4, [.null, .int (nI 0), .int (nI 0)])), (q_1, .inl (cI, 64, .inl (gA (fun _ => 0))))] := hD
  refine W.widen (k := 1) (n := 64) (by omega) (by omega) ?_
  refine va_putF (own := RX4) (D := (dC, dI)) (ci := 4) (C := RX4) (T := TX4) (N := 3) (v := .ref q_1) hx hb hts (by decide +kernel) tyX4 tyX4_ok nmX4 hown hK hP hD hS 0 rfl rfl 0 (by decide) (hts (.fieldLink RX4 9 "NumeralCipher$Row" "cells" "[I") (by decide +kernel)) (fun _ h9 => h9) rfl hin9 rfl (tyX4_ok 0 (by decide)) rfl rfl (Nat.le_of_ble_eq_true rfl) dX4_init_9 (fun H locs hP hD hS => ?_)
  have hP : va_P (dC, dI) vwCl [(o, .inr (4, [.ref q_1, .int (nI 0), .int (nI 0)])), (q_1, .inl (cI, 64, .inl (gA (fun _ => 0))))] H := hP
  have hD : va_D A [(o, .inr (4, [.ref q_1, .int (nI 0), .int (nI 0)])), (q_1, .inl (cI, 64, .inl (gA (fun _ => 0))))] := hD
  refine lv_aload_n hx hb dX4_init_12 rfl (lv_at hl 0 rfl) ?_
  refine lv_bipush (v := nI 10) hx hb dX4_init_13 (by decide) ?_
  refine gv_put (own := RX4) (D := (dC, dI)) (ci := 4) (C := RX4) (T := TX4) (N := 3) (ws' := [(o, .inr (4, [.ref q_1, .int (nI 0), .int (nI 10)])), (q_1, .inl (cI, 64, .inl (gA (fun _ => 0))))]) hx hb hts (by decide +kernel) tyX4 tyX4_ok nmX4 hown hK hP hD hS 0 rfl rfl 2 (by decide) (hts (.fieldLink RX4 15 "NumeralCipher$Row" "base" "I") (by decide +kernel)) rfl rfl (by decide +kernel) (Nat.le_of_ble_eq_true rfl) rfl dX4_init_15 (fun H locs hP hD hS => ?_)
  exact W.vret hx hb hr (fun t ht hW => ⟨⟨(q_1), rfl, trivial, gB_end ht hW hP hK hD⟩, hS.F ht⟩) hS.2.2 dX4_init_18

set_option maxHeartbeats 4000000 in
set_option maxRecDepth 100000 in
/-- a new X0 -/
theorem c_X0_init (l : Launch) (dC : Nat → ClassId) (dI : Nat → Nat → Nat) (cI : ClassId) (sz : Nat) (o : Nat) : Met l yX0_init wsX0_init ({ frames := 1, cells := 2, slots := 64, locals := 24 }) (gPc dC dI cI [.ref o] [(o, .inr (0, [.null, .null, .int (nI 0)]))] sz) (va_Qv (fun u : Nat × Nat => True) (fun u t => gB dC dI cI (va_A [(o, .inr (0, [.null, .null, .int (nI 0)]))] sz) [(o, .inr (0, [.ref u.1, .ref u.2, .int (nI 0)])), (u.1, .inl (cI, 60, .inl (gA (fun _ => 0)))), (u.2, .inl (cI, 4, .inl (gA (fun _ => 0))))] t) (va_A [(o, .inr (0, [.null, .null, .int (nI 0)]))] sz)) 2 64 (va_A [(o, .inr (0, [.null, .null, .int (nI 0)]))] sz) := by
  refine Met.ofW (cc := cX0_init) (maxL := 1) (ret := none) (by decide) rfl ?_
  intro p e s m args below meth c s₁ B9 hml hv
  obtain ⟨rfl, hsz, ⟨hP, hK, hD0⟩⟩ := hv
  have hx := B9.exec
  have hb := B9.bytes
  have hr := B9.returns
  have hts := atoms_spec (ws := wsX0_init) B9.pre
  have hown : s.vm.findClass RX0 = some m.cls := findClass_of_methodNamed B9.named
  have hlocks := B9.notSynchronized
  subst hsz
  have hD := hD0.self (sz := s.heap.size)
  generalize hAe : va_A [(o, .inr (0, [.null, .null, .int (nI 0)]))] s.heap.size = A at hD ⊢
  have hA : ∀ q : Nat, s.heap.size ≤ q → A q := fun q h => by rw [← hAe]; exact Or.inr h
  have hS : va_S A s.heap s.heap [] := va_S.rf
  have hl := lv_entry ([.ref o]) (n := 1) (Nat.le_of_ble_eq_true rfl)
  rw [lg_entry_eq]
  generalize (lg_sl ([.ref o]) ++ List.replicate (1 - (lg_sl ([.ref o])).length) Slot.unset).toArray = ls at hl ⊢
  have hl : lv_has ls 1 [(0, .ref o)] := hl
  have hin9 : meth.name = "<init>" := (name_of_methodNamed B9.named B9.method).1
  refine lv_aload_n hx hb dX0_init_0 rfl (lv_at hl 0 rfl) ?_
  refine W.objInit hx hb hown (hts (.methodLink RX0 3 objectInit) (by decide +kernel)) (hts (.instanceMethod objectInit) (by decide +kernel)) (hts (.code objectInit ⟨#[0xb1]⟩ 1 none) (by decide +kernel)) rfl (by rw [hml]; exact hl.1) rfl dX0_init_1 (Nat.le_of_ble_eq_true rfl) (Nat.le_of_ble_eq_true rfl) ?_
  refine W.eq (g2 := F0 m 4 ls []) rfl ?_
  refine lv_aload_n hx hb dX0_init_4 rfl (lv_at hl 0 rfl) ?_
  refine lv_bipush (v := nI 60) hx hb dX0_init_5 (by decide) ?_
  refine gv_newi hx hb (hts (.arrayClass .int) (by decide +kernel)) hK hP hD hS hA (by decide) (Nat.le_of_ble_eq_true rfl) (Nat.le_of_ble_eq_true rfl) dX0_init_7 (fun q_1 H hP hD hS => ?_)
  have hP : va_P (dC, dI) vwCl [(o, .inr (0, [.null, .null, .int (nI 0)])), (q_1, .inl (cI, 60, .inl (gA (fun _ => 0))))] H := hP
  have hD : va_D A [(o, .inr (0, [.null, .null, .int (nI 0)])), (q_1, .inl (cI, 60, .inl (gA (fun _ => 0))))] := hD
  refine W.widen (k := 1) (n := 60) (by omega) (by omega) ?_
  refine va_putF (own := RX0) (D := (dC, dI)) (ci := 0) (C := RX0) (T := TX0) (N := 3) (v := .ref q_1) hx hb hts (by decide +kernel) tyX0 tyX0_ok nmX0 hown hK hP hD hS 0 rfl rfl 0 (by decide) (hts (.fieldLink RX0 11 "NumeralCipher$BlockCipher" "schedule" "[I") (by decide +kernel)) (fun _ h9 => h9) rfl hin9 rfl (tyX0_ok 0 (by decide)) rfl rfl (Nat.le_of_ble_eq_true rfl) dX0_init_9 (fun H locs hP hD hS => ?_)
  have hP : va_P (dC, dI) vwCl [(o, .inr (0, [.ref q_1, .null, .int (nI 0)])), (q_1, .inl (cI, 60, .inl (gA (fun _ => 0))))] H := hP
  have hD : va_D A [(o, .inr (0, [.ref q_1, .null, .int (nI 0)])), (q_1, .inl (cI, 60, .inl (gA (fun _ => 0))))] := hD
  refine lv_aload_n hx hb dX0_init_12 rfl (lv_at hl 0 rfl) ?_
  refine lv_iconst (v := nI 4) hx hb dX0_init_13 (by decide) ?_
  refine gv_newi hx hb (hts (.arrayClass .int) (by decide +kernel)) hK hP hD hS hA (by decide) (Nat.le_of_ble_eq_true rfl) (Nat.le_of_ble_eq_true rfl) dX0_init_14 (fun q_2 H hP hD hS => ?_)
  have hP : va_P (dC, dI) vwCl [(o, .inr (0, [.ref q_1, .null, .int (nI 0)])), (q_1, .inl (cI, 60, .inl (gA (fun _ => 0)))), (q_2, .inl (cI, 4, .inl (gA (fun _ => 0))))] H := hP
  have hD : va_D A [(o, .inr (0, [.ref q_1, .null, .int (nI 0)])), (q_1, .inl (cI, 60, .inl (gA (fun _ => 0)))), (q_2, .inl (cI, 4, .inl (gA (fun _ => 0))))] := hD
  refine W.widen (k := 2) (n := 64) (by omega) (by omega) ?_
  refine va_putF (own := RX0) (D := (dC, dI)) (ci := 0) (C := RX0) (T := TX0) (N := 3) (v := .ref q_2) hx hb hts (by decide +kernel) tyX0 tyX0_ok nmX0 hown hK hP hD hS 0 rfl rfl 1 (by decide) (hts (.fieldLink RX0 15 "NumeralCipher$BlockCipher" "moved" "[I") (by decide +kernel)) (fun _ h9 => h9) rfl hin9 rfl (tyX0_ok 1 (by decide)) rfl rfl (Nat.le_of_ble_eq_true rfl) dX0_init_16 (fun H locs hP hD hS => ?_)
  have hP : va_P (dC, dI) vwCl [(o, .inr (0, [.ref q_1, .ref q_2, .int (nI 0)])), (q_1, .inl (cI, 60, .inl (gA (fun _ => 0)))), (q_2, .inl (cI, 4, .inl (gA (fun _ => 0))))] H := hP
  have hD : va_D A [(o, .inr (0, [.ref q_1, .ref q_2, .int (nI 0)])), (q_1, .inl (cI, 60, .inl (gA (fun _ => 0)))), (q_2, .inl (cI, 4, .inl (gA (fun _ => 0))))] := hD
  exact W.vret hx hb hr (fun t ht hW => ⟨⟨(q_1, q_2), rfl, trivial, gB_end ht hW hP hK hD⟩, hS.F ht⟩) hS.2.2 dX0_init_19

set_option maxHeartbeats 4000000 in
set_option maxRecDepth 100000 in
/-- a new X6 -/
theorem c_X6_init_2 (l : Launch) (dC : Nat → ClassId) (dI : Nat → Nat → Nat) (cI : ClassId) (tS : Nat) (sz : Nat) (o : Nat) : Met l yX6_init wsX6_init ({ frames := 2, cells := 3, slots := 67, locals := 44 }) (gPe dC dI cI tS [.ref o] [(o, .inr (2, [.null, .null, .null, .null, .null, .int (nI 0), .int (nI 0), .int (nI 0)]))] sz) (va_Qv (fun u : Nat × Nat × Nat => True) (fun u t => gB dC dI cI (va_A [(o, .inr (2, [.null, .null, .null, .null, .null, .int (nI 0), .int (nI 0), .int (nI 0)]))] sz) [(o, .inr (2, [.ref u.1, .null, .null, .null, .null, .int (nI 0), .int (nI 0), .int (nI 0)])), (u.1, .inr (0, [.ref u.2.1, .ref u.2.2, .int (nI 0)])), (u.2.1, .inl (cI, 60, .inl (gA (fun _ => 0)))), (u.2.2, .inl (cI, 4, .inl (gA (fun _ => 0))))] t) (va_A [(o, .inr (2, [.null, .null, .null, .null, .null, .int (nI 0), .int (nI 0), .int (nI 0)]))] sz)) 3 67 (va_A [(o, .inr (2, [.null, .null, .null, .null, .null, .int (nI 0), .int (nI 0), .int (nI 0)]))] sz) := by
  refine Met.ofW (cc := cX6_init) (maxL := 1) (ret := none) (by decide) rfl ?_
  intro p e s m args below meth c s₁ B9 hml hv
  obtain ⟨rfl, hsz, ⟨hP, hK, hD0⟩, hE⟩ := hv
  have hx := B9.exec
  have hb := B9.bytes
  have hr := B9.returns
  have hts := atoms_spec (ws := wsX6_init) B9.pre
  have hown : s.vm.findClass RX6 = some m.cls := findClass_of_methodNamed B9.named
  have hlocks := B9.notSynchronized
  subst hsz
  have hD := hD0.self (sz := s.heap.size)
  generalize hAe : va_A [(o, .inr (2, [.null, .null, .null, .null, .null, .int (nI 0), .int (nI 0), .int (nI 0)]))] s.heap.size = A at hD hE ⊢
  have hA : ∀ q : Nat, s.heap.size ≤ q → A q := fun q h => by rw [← hAe]; exact Or.inr h
  have hS : va_S A s.heap s.heap [] := va_S.rf
  have hl := lv_entry ([.ref o]) (n := 1) (Nat.le_of_ble_eq_true rfl)
  rw [lg_entry_eq]
  generalize (lg_sl ([.ref o]) ++ List.replicate (1 - (lg_sl ([.ref o])).length) Slot.unset).toArray = ls at hl ⊢
  have hl : lv_has ls 1 [(0, .ref o)] := hl
  have hin9 : meth.name = "<init>" := (name_of_methodNamed B9.named B9.method).1
  refine lv_aload_n hx hb dX6_init_0 rfl (lv_at hl 0 rfl) ?_
  refine W.objInit hx hb hown (hts (.methodLink RX6 1 objectInit) (by decide +kernel)) (hts (.instanceMethod objectInit) (by decide +kernel)) (hts (.code objectInit ⟨#[0xb1]⟩ 1 none) (by decide +kernel)) rfl (by rw [hml]; exact hl.1) rfl dX6_init_1 (Nat.le_of_ble_eq_true rfl) (Nat.le_of_ble_eq_true rfl) ?_
  refine W.eq (g2 := F0 m 4 ls []) rfl ?_
  refine lv_aload_n hx hb dX6_init_4 rfl (lv_at hl 0 rfl) ?_
  refine va_new (ci := 0) (fs := [.null, .null, .int (nI 0)]) (C := RX0) (T := TX0) (N := 3) hx hb hts (by decide +kernel) tyX0 tyX0_ok hown (hts (.classLink RX6 7 RX0) (by decide +kernel)) (hts (.instantiable RX0 3) (by decide +kernel)) (hts (.initialized RX0) (by decide +kernel)) hK hP hD hS hA rfl (fun j hj => by rcases (show j = 0 ∨ j = 1 ∨ j = 2 by omega) with rfl | rfl | rfl <;> rfl) (Nat.le_of_ble_eq_true rfl) (Nat.le_of_ble_eq_true rfl) dX6_init_5 (fun q_1 H hP hD hS => ?_)
  have hP : va_P (dC, dI) vwCl [(o, .inr (2, [.null, .null, .null, .null, .null, .int (nI 0), .int (nI 0), .int (nI 0)])), (q_1, .inr (0, [.null, .null, .int (nI 0)]))] H := hP
  have hD : va_D A [(o, .inr (2, [.null, .null, .null, .null, .null, .int (nI 0), .int (nI 0), .int (nI 0)])), (q_1, .inr (0, [.null, .null, .int (nI 0)]))] := hD
  refine W.widen (k := 1) (n := 3) (by omega) (by omega) ?_
  refine lv_dup hx hb dX6_init_8 rfl ?_
  have hPc := hP.sub (ws' := [(q_1, .inr (0, [.null, .null, .int (nI 0)]))]) [1] rfl
  have hDc := hD.sub (ws' := [(q_1, .inr (0, [.null, .null, .int (nI 0)]))]) [1] (by decide) rfl
  have hFc := va_free (wc := [(q_1, .inr (0, [.null, .null, .int (nI 0)]))]) hD hS hA [1] rfl
  refine va_callv (va_runIN (As := []) (rest := [.ref q_1, .ref o]) ⟨hx, hb, hml, hown, hts⟩ (c_X0_init l dC dI cI H.size q_1 ) ⟨va_cnB 0 hts gX6_init_X0_init_n9 rfl rfl rfl (hE.nest (.methodLinkNest "NumeralCipher$Way" 9 ⟨"NumeralCipher$BlockCipher", "<init>", "()V"⟩ "NumeralCipher") (by decide +kernel)) (hts (.initialized RX0) (by decide +kernel)) (by decide +kernel) ⟨Nat.le_of_ble_eq_true rfl, Nat.le_of_ble_eq_true rfl⟩, rfl, hts (.instanceMethod yX0_init) (by decide +kernel)⟩ ⟨gPc_blind, gPc_pre hPc hK hDc⟩ rfl rfl hl.1 rfl (lv_room (Nat.le_of_ble_eq_true rfl)) dX6_init_9 ⟨Nat.le_of_ble_eq_true rfl, Nat.le_of_ble_eq_true rfl⟩) hS (fun q _ h => hFc q h) hFc (fun u8 t8 H1 locs ht hvm hw hB hz1 hk1 hS => ?_)
  obtain ⟨sc_2, mv_2⟩ := u8
  try dsimp only at hw hB
  obtain ⟨hP, hD⟩ := gB_join (wr := [(o, .inr (2, [.null, .null, .null, .null, .null, .int (nI 0), .int (nI 0), .int (nI 0)]))]) (w2 := [(o, .inr (2, [.null, .null, .null, .null, .null, .int (nI 0), .int (nI 0), .int (nI 0)])), (q_1, .inr (0, [.ref sc_2, .ref mv_2, .int (nI 0)])), (sc_2, .inl (cI, 60, .inl (gA (fun _ => 0)))), (mv_2, .inl (cI, 4, .inl (gA (fun _ => 0))))]) hP hD [1] [0] rfl rfl (by decide) (by decide) hk1 hFc ht hB rfl
  clear hk1 hz1 ht hB hvm hPc hDc hFc
  generalize H1 = H at hP hS ⊢
  refine W.widen (k := 3) (n := 67) (by omega) (by omega) ?_
  refine va_putF (own := RX6) (D := (dC, dI)) (ci := 2) (C := RX2) (T := TX2) (N := 8) (v := .ref q_1) hx hb hts (by decide +kernel) tyX2 tyX2_ok nmX2 hown hK hP hD hS 0 rfl rfl 0 (by decide) (hts (.fieldLink RX6 10 "NumeralCipher$Way" "cipher" "LNumeralCipher$BlockCipher;") (by decide +kernel)) (fun _ h9 => h9) rfl hin9 rfl (tyX2_ok 0 (by decide)) rfl rfl (Nat.le_of_ble_eq_true rfl) dX6_init_12 (fun H locs hP hD hS => ?_)
  have hP : va_P (dC, dI) vwCl [(o, .inr (2, [.ref q_1, .null, .null, .null, .null, .int (nI 0), .int (nI 0), .int (nI 0)])), (q_1, .inr (0, [.ref sc_2, .ref mv_2, .int (nI 0)])), (sc_2, .inl (cI, 60, .inl (gA (fun _ => 0)))), (mv_2, .inl (cI, 4, .inl (gA (fun _ => 0))))] H := hP
  have hD : va_D A [(o, .inr (2, [.ref q_1, .null, .null, .null, .null, .int (nI 0), .int (nI 0), .int (nI 0)])), (q_1, .inr (0, [.ref sc_2, .ref mv_2, .int (nI 0)])), (sc_2, .inl (cI, 60, .inl (gA (fun _ => 0)))), (mv_2, .inl (cI, 4, .inl (gA (fun _ => 0))))] := hD
  exact W.vret hx hb hr (fun t ht hW => ⟨⟨(q_1, sc_2, mv_2), rfl, trivial, gB_end ht hW hP hK hD⟩, hS.F ht⟩) hS.2.2 dX6_init_15

set_option maxHeartbeats 4000000 in
set_option maxRecDepth 100000 in
/-- a new X6 -/
theorem c_X6_init_5 (l : Launch) (dC : Nat → ClassId) (dI : Nat → Nat → Nat) (cI : ClassId) (tS : Nat) (sz : Nat) (o : Nat) : Met l yX6_init wsX6_init ({ frames := 2, cells := 3, slots := 67, locals := 44 }) (gPe dC dI cI tS [.ref o] [(o, .inr (5, [.null, .null, .int (nI 0), .int (nI 0)]))] sz) (va_Qv (fun u : Nat × Nat × Nat => True) (fun u t => gB dC dI cI (va_A [(o, .inr (5, [.null, .null, .int (nI 0), .int (nI 0)]))] sz) [(o, .inr (5, [.ref u.1, .null, .int (nI 0), .int (nI 0)])), (u.1, .inr (0, [.ref u.2.1, .ref u.2.2, .int (nI 0)])), (u.2.1, .inl (cI, 60, .inl (gA (fun _ => 0)))), (u.2.2, .inl (cI, 4, .inl (gA (fun _ => 0))))] t) (va_A [(o, .inr (5, [.null, .null, .int (nI 0), .int (nI 0)]))] sz)) 3 67 (va_A [(o, .inr (5, [.null, .null, .int (nI 0), .int (nI 0)]))] sz) := by
  refine Met.ofW (cc := cX6_init) (maxL := 1) (ret := none) (by decide) rfl ?_
  intro p e s m args below meth c s₁ B9 hml hv
  obtain ⟨rfl, hsz, ⟨hP, hK, hD0⟩, hE⟩ := hv
  have hx := B9.exec
  have hb := B9.bytes
  have hr := B9.returns
  have hts := atoms_spec (ws := wsX6_init) B9.pre
  have hown : s.vm.findClass RX6 = some m.cls := findClass_of_methodNamed B9.named
  have hlocks := B9.notSynchronized
  subst hsz
  have hD := hD0.self (sz := s.heap.size)
  generalize hAe : va_A [(o, .inr (5, [.null, .null, .int (nI 0), .int (nI 0)]))] s.heap.size = A at hD hE ⊢
  have hA : ∀ q : Nat, s.heap.size ≤ q → A q := fun q h => by rw [← hAe]; exact Or.inr h
  have hS : va_S A s.heap s.heap [] := va_S.rf
  have hl := lv_entry ([.ref o]) (n := 1) (Nat.le_of_ble_eq_true rfl)
  rw [lg_entry_eq]
  generalize (lg_sl ([.ref o]) ++ List.replicate (1 - (lg_sl ([.ref o])).length) Slot.unset).toArray = ls at hl ⊢
  have hl : lv_has ls 1 [(0, .ref o)] := hl
  have hin9 : meth.name = "<init>" := (name_of_methodNamed B9.named B9.method).1
  refine lv_aload_n hx hb dX6_init_0 rfl (lv_at hl 0 rfl) ?_
  refine W.objInit hx hb hown (hts (.methodLink RX6 1 objectInit) (by decide +kernel)) (hts (.instanceMethod objectInit) (by decide +kernel)) (hts (.code objectInit ⟨#[0xb1]⟩ 1 none) (by decide +kernel)) rfl (by rw [hml]; exact hl.1) rfl dX6_init_1 (Nat.le_of_ble_eq_true rfl) (Nat.le_of_ble_eq_true rfl) ?_
  refine W.eq (g2 := F0 m 4 ls []) rfl ?_
  refine lv_aload_n hx hb dX6_init_4 rfl (lv_at hl 0 rfl) ?_
  refine va_new (ci := 0) (fs := [.null, .null, .int (nI 0)]) (C := RX0) (T := TX0) (N := 3) hx hb hts (by decide +kernel) tyX0 tyX0_ok hown (hts (.classLink RX6 7 RX0) (by decide +kernel)) (hts (.instantiable RX0 3) (by decide +kernel)) (hts (.initialized RX0) (by decide +kernel)) hK hP hD hS hA rfl (fun j hj => by rcases (show j = 0 ∨ j = 1 ∨ j = 2 by omega) with rfl | rfl | rfl <;> rfl) (Nat.le_of_ble_eq_true rfl) (Nat.le_of_ble_eq_true rfl) dX6_init_5 (fun q_1 H hP hD hS => ?_)
  have hP : va_P (dC, dI) vwCl [(o, .inr (5, [.null, .null, .int (nI 0), .int (nI 0)])), (q_1, .inr (0, [.null, .null, .int (nI 0)]))] H := hP
  have hD : va_D A [(o, .inr (5, [.null, .null, .int (nI 0), .int (nI 0)])), (q_1, .inr (0, [.null, .null, .int (nI 0)]))] := hD
  refine W.widen (k := 1) (n := 3) (by omega) (by omega) ?_
  refine lv_dup hx hb dX6_init_8 rfl ?_
  have hPc := hP.sub (ws' := [(q_1, .inr (0, [.null, .null, .int (nI 0)]))]) [1] rfl
  have hDc := hD.sub (ws' := [(q_1, .inr (0, [.null, .null, .int (nI 0)]))]) [1] (by decide) rfl
  have hFc := va_free (wc := [(q_1, .inr (0, [.null, .null, .int (nI 0)]))]) hD hS hA [1] rfl
  refine va_callv (va_runIN (As := []) (rest := [.ref q_1, .ref o]) ⟨hx, hb, hml, hown, hts⟩ (c_X0_init l dC dI cI H.size q_1 ) ⟨va_cnB 0 hts gX6_init_X0_init_n9 rfl rfl rfl (hE.nest (.methodLinkNest "NumeralCipher$Way" 9 ⟨"NumeralCipher$BlockCipher", "<init>", "()V"⟩ "NumeralCipher") (by decide +kernel)) (hts (.initialized RX0) (by decide +kernel)) (by decide +kernel) ⟨Nat.le_of_ble_eq_true rfl, Nat.le_of_ble_eq_true rfl⟩, rfl, hts (.instanceMethod yX0_init) (by decide +kernel)⟩ ⟨gPc_blind, gPc_pre hPc hK hDc⟩ rfl rfl hl.1 rfl (lv_room (Nat.le_of_ble_eq_true rfl)) dX6_init_9 ⟨Nat.le_of_ble_eq_true rfl, Nat.le_of_ble_eq_true rfl⟩) hS (fun q _ h => hFc q h) hFc (fun u8 t8 H1 locs ht hvm hw hB hz1 hk1 hS => ?_)
  obtain ⟨sc_2, mv_2⟩ := u8
  try dsimp only at hw hB
  obtain ⟨hP, hD⟩ := gB_join (wr := [(o, .inr (5, [.null, .null, .int (nI 0), .int (nI 0)]))]) (w2 := [(o, .inr (5, [.null, .null, .int (nI 0), .int (nI 0)])), (q_1, .inr (0, [.ref sc_2, .ref mv_2, .int (nI 0)])), (sc_2, .inl (cI, 60, .inl (gA (fun _ => 0)))), (mv_2, .inl (cI, 4, .inl (gA (fun _ => 0))))]) hP hD [1] [0] rfl rfl (by decide) (by decide) hk1 hFc ht hB rfl
  clear hk1 hz1 ht hB hvm hPc hDc hFc
  generalize H1 = H at hP hS ⊢
  refine W.widen (k := 3) (n := 67) (by omega) (by omega) ?_
  refine va_putF (own := RX6) (D := (dC, dI)) (ci := 5) (C := RX5) (T := TX5) (N := 4) (v := .ref q_1) hx hb hts (by decide +kernel) tyX5 tyX5_ok nmX5 hown hK hP hD hS 0 rfl rfl 0 (by decide) (hts (.fieldLink RX6 10 "NumeralCipher$Way" "cipher" "LNumeralCipher$BlockCipher;") (by decide +kernel)) (fun _ h9 => h9) rfl hin9 rfl (tyX5_ok 0 (by decide)) rfl rfl (Nat.le_of_ble_eq_true rfl) dX6_init_12 (fun H locs hP hD hS => ?_)
  have hP : va_P (dC, dI) vwCl [(o, .inr (5, [.ref q_1, .null, .int (nI 0), .int (nI 0)])), (q_1, .inr (0, [.ref sc_2, .ref mv_2, .int (nI 0)])), (sc_2, .inl (cI, 60, .inl (gA (fun _ => 0)))), (mv_2, .inl (cI, 4, .inl (gA (fun _ => 0))))] H := hP
  have hD : va_D A [(o, .inr (5, [.ref q_1, .null, .int (nI 0), .int (nI 0)])), (q_1, .inr (0, [.ref sc_2, .ref mv_2, .int (nI 0)])), (sc_2, .inl (cI, 60, .inl (gA (fun _ => 0)))), (mv_2, .inl (cI, 4, .inl (gA (fun _ => 0))))] := hD
  exact W.vret hx hb hr (fun t ht hW => ⟨⟨(q_1, sc_2, mv_2), rfl, trivial, gB_end ht hW hP hK hD⟩, hS.F ht⟩) hS.2.2 dX6_init_15

set_option maxHeartbeats 4000000 in
set_option maxRecDepth 100000 in
/-- a new X2 -/
theorem c_X2_init (l : Launch) (dC : Nat → ClassId) (dI : Nat → Nat → Nat) (cI : ClassId) (tS : Nat) (sz : Nat) (o : Nat) : Met l yX2_init wsX2_init ({ frames := 3, cells := 7, slots := 87, locals := 64 }) (gPe dC dI cI tS [.ref o] [(o, .inr (2, [.null, .null, .null, .null, .null, .int (nI 0), .int (nI 0), .int (nI 0)]))] sz) (va_Qv (fun u : Nat × Nat × Nat × Nat × Nat × Nat × Nat => True) (fun u t => gB dC dI cI (va_A [(o, .inr (2, [.null, .null, .null, .null, .null, .int (nI 0), .int (nI 0), .int (nI 0)]))] sz) [(o, .inr (2, [.ref u.1, .ref u.2.2.2.1, .ref u.2.2.2.2.1, .ref u.2.2.2.2.2.1, .ref u.2.2.2.2.2.2, .int (nI 0), .int (nI 0), .int (nI 0)])), (u.1, .inr (0, [.ref u.2.1, .ref u.2.2.1, .int (nI 0)])), (u.2.1, .inl (cI, 60, .inl (gA (fun _ => 0)))), (u.2.2.1, .inl (cI, 4, .inl (gA (fun _ => 0)))), (u.2.2.2.1, .inl (cI, 8, .inl (gA (fun _ => 0)))), (u.2.2.2.2.1, .inl (cI, 4, .inl (gA (fun _ => 0)))), (u.2.2.2.2.2.1, .inl (cI, 4, .inl (gA (fun _ => 0)))), (u.2.2.2.2.2.2, .inl (cI, 4, .inl (gA (fun _ => 0))))] t) (va_A [(o, .inr (2, [.null, .null, .null, .null, .null, .int (nI 0), .int (nI 0), .int (nI 0)]))] sz)) 7 87 (va_A [(o, .inr (2, [.null, .null, .null, .null, .null, .int (nI 0), .int (nI 0), .int (nI 0)]))] sz) := by
  refine Met.ofW (cc := cX2_init) (maxL := 1) (ret := none) (by decide) rfl ?_
  intro p e s m args below meth c s₁ B9 hml hv
  obtain ⟨rfl, hsz, ⟨hP, hK, hD0⟩, hE⟩ := hv
  have hx := B9.exec
  have hb := B9.bytes
  have hr := B9.returns
  have hts := atoms_spec (ws := wsX2_init) B9.pre
  have hown : s.vm.findClass RX2 = some m.cls := findClass_of_methodNamed B9.named
  have hlocks := B9.notSynchronized
  subst hsz
  have hD := hD0.self (sz := s.heap.size)
  generalize hAe : va_A [(o, .inr (2, [.null, .null, .null, .null, .null, .int (nI 0), .int (nI 0), .int (nI 0)]))] s.heap.size = A at hD hE ⊢
  have hA : ∀ q : Nat, s.heap.size ≤ q → A q := fun q h => by rw [← hAe]; exact Or.inr h
  have hS : va_S A s.heap s.heap [] := va_S.rf
  have hl := lv_entry ([.ref o]) (n := 1) (Nat.le_of_ble_eq_true rfl)
  rw [lg_entry_eq]
  generalize (lg_sl ([.ref o]) ++ List.replicate (1 - (lg_sl ([.ref o])).length) Slot.unset).toArray = ls at hl ⊢
  have hl : lv_has ls 1 [(0, .ref o)] := hl
  have hin9 : meth.name = "<init>" := (name_of_methodNamed B9.named B9.method).1
  refine lv_aload_n hx hb dX2_init_0 rfl (lv_at hl 0 rfl) ?_
  have hPc := hP.sub (ws' := [(o, .inr (2, [.null, .null, .null, .null, .null, .int (nI 0), .int (nI 0), .int (nI 0)]))]) [0] rfl
  have hDc := hD.sub (ws' := [(o, .inr (2, [.null, .null, .null, .null, .null, .int (nI 0), .int (nI 0), .int (nI 0)]))]) [0] (by decide) rfl
  have hFc := va_free (wc := [(o, .inr (2, [.null, .null, .null, .null, .null, .int (nI 0), .int (nI 0), .int (nI 0)]))]) hD hS hA [0] rfl
  refine va_callv (va_runIN (As := []) (rest := []) ⟨hx, hb, hml, hown, hts⟩ (c_X6_init_2 l dC dI cI tS s.heap.size o ) ⟨va_cnB 0 hts gX2_init_X6_init_n3 rfl rfl rfl (hE.nest (.methodLinkNest "NumeralCipher$FirstWay" 3 ⟨"NumeralCipher$Way", "<init>", "()V"⟩ "NumeralCipher") (by decide +kernel)) (hts (.initialized RX6) (by decide +kernel)) (by decide +kernel) ⟨Nat.le_of_ble_eq_true rfl, Nat.le_of_ble_eq_true rfl⟩, rfl, hts (.instanceMethod yX6_init) (by decide +kernel)⟩ ⟨gPe_blind, gPe_pre hPc hK hDc (hE.at hS) hFc⟩ rfl rfl hl.1 rfl (lv_room (Nat.le_of_ble_eq_true rfl)) dX2_init_1 ⟨Nat.le_of_ble_eq_true rfl, Nat.le_of_ble_eq_true rfl⟩) hS (fun q _ h => hFc q h) hFc (fun u8 t8 H1 locs ht hvm hw hB hz1 hk1 hS => ?_)
  obtain ⟨ci_1, sc_1, mv_1⟩ := u8
  try dsimp only at hw hB
  obtain ⟨hP, hD⟩ := gB_join (wr := []) (w2 := [(o, .inr (2, [.ref ci_1, .null, .null, .null, .null, .int (nI 0), .int (nI 0), .int (nI 0)])), (ci_1, .inr (0, [.ref sc_1, .ref mv_1, .int (nI 0)])), (sc_1, .inl (cI, 60, .inl (gA (fun _ => 0)))), (mv_1, .inl (cI, 4, .inl (gA (fun _ => 0))))]) hP hD [0] [] rfl rfl (by decide) (by decide) hk1 hFc ht hB rfl
  clear hk1 hz1 ht hB hvm hPc hDc hFc
  generalize H1 = H at hP hS ⊢
  refine W.widen (k := 3) (n := 67) (by omega) (by omega) ?_
  refine lv_aload_n hx hb dX2_init_4 rfl (lv_at hl 0 rfl) ?_
  refine lv_bipush (v := nI 8) hx hb dX2_init_5 (by decide) ?_
  refine gv_newi hx hb (hts (.arrayClass .int) (by decide +kernel)) hK hP hD hS hA (by decide) (Nat.le_of_ble_eq_true rfl) (Nat.le_of_ble_eq_true rfl) dX2_init_7 (fun q_2 H hP hD hS => ?_)
  have hP : va_P (dC, dI) vwCl [(o, .inr (2, [.ref ci_1, .null, .null, .null, .null, .int (nI 0), .int (nI 0), .int (nI 0)])), (ci_1, .inr (0, [.ref sc_1, .ref mv_1, .int (nI 0)])), (sc_1, .inl (cI, 60, .inl (gA (fun _ => 0)))), (mv_1, .inl (cI, 4, .inl (gA (fun _ => 0)))), (q_2, .inl (cI, 8, .inl (gA (fun _ => 0))))] H := hP
  have hD : va_D A [(o, .inr (2, [.ref ci_1, .null, .null, .null, .null, .int (nI 0), .int (nI 0), .int (nI 0)])), (ci_1, .inr (0, [.ref sc_1, .ref mv_1, .int (nI 0)])), (sc_1, .inl (cI, 60, .inl (gA (fun _ => 0)))), (mv_1, .inl (cI, 4, .inl (gA (fun _ => 0)))), (q_2, .inl (cI, 8, .inl (gA (fun _ => 0))))] := hD
  refine W.widen (k := 4) (n := 75) (by omega) (by omega) ?_
  refine va_putF (own := RX2) (D := (dC, dI)) (ci := 2) (C := RX2) (T := TX2) (N := 8) (v := .ref q_2) hx hb hts (by decide +kernel) tyX2 tyX2_ok nmX2 hown hK hP hD hS 0 rfl rfl 1 (by decide) (hts (.fieldLink RX2 11 "NumeralCipher$FirstWay" "tweakWords" "[I") (by decide +kernel)) (fun _ h9 => h9) rfl hin9 rfl (tyX2_ok 1 (by decide)) rfl rfl (Nat.le_of_ble_eq_true rfl) dX2_init_9 (fun H locs hP hD hS => ?_)
  have hP : va_P (dC, dI) vwCl [(o, .inr (2, [.ref ci_1, .ref q_2, .null, .null, .null, .int (nI 0), .int (nI 0), .int (nI 0)])), (ci_1, .inr (0, [.ref sc_1, .ref mv_1, .int (nI 0)])), (sc_1, .inl (cI, 60, .inl (gA (fun _ => 0)))), (mv_1, .inl (cI, 4, .inl (gA (fun _ => 0)))), (q_2, .inl (cI, 8, .inl (gA (fun _ => 0))))] H := hP
  have hD : va_D A [(o, .inr (2, [.ref ci_1, .ref q_2, .null, .null, .null, .int (nI 0), .int (nI 0), .int (nI 0)])), (ci_1, .inr (0, [.ref sc_1, .ref mv_1, .int (nI 0)])), (sc_1, .inl (cI, 60, .inl (gA (fun _ => 0)))), (mv_1, .inl (cI, 4, .inl (gA (fun _ => 0)))), (q_2, .inl (cI, 8, .inl (gA (fun _ => 0))))] := hD
  refine lv_aload_n hx hb dX2_init_12 rfl (lv_at hl 0 rfl) ?_
  refine lv_iconst (v := nI 4) hx hb dX2_init_13 (by decide) ?_
  refine gv_newi hx hb (hts (.arrayClass .int) (by decide +kernel)) hK hP hD hS hA (by decide) (Nat.le_of_ble_eq_true rfl) (Nat.le_of_ble_eq_true rfl) dX2_init_14 (fun q_3 H hP hD hS => ?_)
  have hP : va_P (dC, dI) vwCl [(o, .inr (2, [.ref ci_1, .ref q_2, .null, .null, .null, .int (nI 0), .int (nI 0), .int (nI 0)])), (ci_1, .inr (0, [.ref sc_1, .ref mv_1, .int (nI 0)])), (sc_1, .inl (cI, 60, .inl (gA (fun _ => 0)))), (mv_1, .inl (cI, 4, .inl (gA (fun _ => 0)))), (q_2, .inl (cI, 8, .inl (gA (fun _ => 0)))), (q_3, .inl (cI, 4, .inl (gA (fun _ => 0))))] H := hP
  have hD : va_D A [(o, .inr (2, [.ref ci_1, .ref q_2, .null, .null, .null, .int (nI 0), .int (nI 0), .int (nI 0)])), (ci_1, .inr (0, [.ref sc_1, .ref mv_1, .int (nI 0)])), (sc_1, .inl (cI, 60, .inl (gA (fun _ => 0)))), (mv_1, .inl (cI, 4, .inl (gA (fun _ => 0)))), (q_2, .inl (cI, 8, .inl (gA (fun _ => 0)))), (q_3, .inl (cI, 4, .inl (gA (fun _ => 0))))] := hD
  refine W.widen (k := 5) (n := 79) (by omega) (by omega) ?_
  refine va_putF (own := RX2) (D := (dC, dI)) (ci := 2) (C := RX2) (T := TX2) (N := 8) (v := .ref q_3) hx hb hts (by decide +kernel) tyX2 tyX2_ok nmX2 hown hK hP hD hS 0 rfl rfl 2 (by decide) (hts (.fieldLink RX2 15 "NumeralCipher$FirstWay" "start" "[I") (by decide +kernel)) (fun _ h9 => h9) rfl hin9 rfl (tyX2_ok 2 (by decide)) rfl rfl (Nat.le_of_ble_eq_true rfl) dX2_init_16 (fun H locs hP hD hS => ?_)
  have hP : va_P (dC, dI) vwCl [(o, .inr (2, [.ref ci_1, .ref q_2, .ref q_3, .null, .null, .int (nI 0), .int (nI 0), .int (nI 0)])), (ci_1, .inr (0, [.ref sc_1, .ref mv_1, .int (nI 0)])), (sc_1, .inl (cI, 60, .inl (gA (fun _ => 0)))), (mv_1, .inl (cI, 4, .inl (gA (fun _ => 0)))), (q_2, .inl (cI, 8, .inl (gA (fun _ => 0)))), (q_3, .inl (cI, 4, .inl (gA (fun _ => 0))))] H := hP
  have hD : va_D A [(o, .inr (2, [.ref ci_1, .ref q_2, .ref q_3, .null, .null, .int (nI 0), .int (nI 0), .int (nI 0)])), (ci_1, .inr (0, [.ref sc_1, .ref mv_1, .int (nI 0)])), (sc_1, .inl (cI, 60, .inl (gA (fun _ => 0)))), (mv_1, .inl (cI, 4, .inl (gA (fun _ => 0)))), (q_2, .inl (cI, 8, .inl (gA (fun _ => 0)))), (q_3, .inl (cI, 4, .inl (gA (fun _ => 0))))] := hD
  refine lv_aload_n hx hb dX2_init_19 rfl (lv_at hl 0 rfl) ?_
  refine lv_iconst (v := nI 4) hx hb dX2_init_20 (by decide) ?_
  refine gv_newi hx hb (hts (.arrayClass .int) (by decide +kernel)) hK hP hD hS hA (by decide) (Nat.le_of_ble_eq_true rfl) (Nat.le_of_ble_eq_true rfl) dX2_init_21 (fun q_4 H hP hD hS => ?_)
  have hP : va_P (dC, dI) vwCl [(o, .inr (2, [.ref ci_1, .ref q_2, .ref q_3, .null, .null, .int (nI 0), .int (nI 0), .int (nI 0)])), (ci_1, .inr (0, [.ref sc_1, .ref mv_1, .int (nI 0)])), (sc_1, .inl (cI, 60, .inl (gA (fun _ => 0)))), (mv_1, .inl (cI, 4, .inl (gA (fun _ => 0)))), (q_2, .inl (cI, 8, .inl (gA (fun _ => 0)))), (q_3, .inl (cI, 4, .inl (gA (fun _ => 0)))), (q_4, .inl (cI, 4, .inl (gA (fun _ => 0))))] H := hP
  have hD : va_D A [(o, .inr (2, [.ref ci_1, .ref q_2, .ref q_3, .null, .null, .int (nI 0), .int (nI 0), .int (nI 0)])), (ci_1, .inr (0, [.ref sc_1, .ref mv_1, .int (nI 0)])), (sc_1, .inl (cI, 60, .inl (gA (fun _ => 0)))), (mv_1, .inl (cI, 4, .inl (gA (fun _ => 0)))), (q_2, .inl (cI, 8, .inl (gA (fun _ => 0)))), (q_3, .inl (cI, 4, .inl (gA (fun _ => 0)))), (q_4, .inl (cI, 4, .inl (gA (fun _ => 0))))] := hD
  refine W.widen (k := 6) (n := 83) (by omega) (by omega) ?_
  refine va_putF (own := RX2) (D := (dC, dI)) (ci := 2) (C := RX2) (T := TX2) (N := 8) (v := .ref q_4) hx hb hts (by decide +kernel) tyX2 tyX2_ok nmX2 hown hK hP hD hS 0 rfl rfl 3 (by decide) (hts (.fieldLink RX2 18 "NumeralCipher$FirstWay" "chained" "[I") (by decide +kernel)) (fun _ h9 => h9) rfl hin9 rfl (tyX2_ok 3 (by decide)) rfl rfl (Nat.le_of_ble_eq_true rfl) dX2_init_23 (fun H locs hP hD hS => ?_)
  have hP : va_P (dC, dI) vwCl [(o, .inr (2, [.ref ci_1, .ref q_2, .ref q_3, .ref q_4, .null, .int (nI 0), .int (nI 0), .int (nI 0)])), (ci_1, .inr (0, [.ref sc_1, .ref mv_1, .int (nI 0)])), (sc_1, .inl (cI, 60, .inl (gA (fun _ => 0)))), (mv_1, .inl (cI, 4, .inl (gA (fun _ => 0)))), (q_2, .inl (cI, 8, .inl (gA (fun _ => 0)))), (q_3, .inl (cI, 4, .inl (gA (fun _ => 0)))), (q_4, .inl (cI, 4, .inl (gA (fun _ => 0))))] H := hP
  have hD : va_D A [(o, .inr (2, [.ref ci_1, .ref q_2, .ref q_3, .ref q_4, .null, .int (nI 0), .int (nI 0), .int (nI 0)])), (ci_1, .inr (0, [.ref sc_1, .ref mv_1, .int (nI 0)])), (sc_1, .inl (cI, 60, .inl (gA (fun _ => 0)))), (mv_1, .inl (cI, 4, .inl (gA (fun _ => 0)))), (q_2, .inl (cI, 8, .inl (gA (fun _ => 0)))), (q_3, .inl (cI, 4, .inl (gA (fun _ => 0)))), (q_4, .inl (cI, 4, .inl (gA (fun _ => 0))))] := hD
  refine lv_aload_n hx hb dX2_init_26 rfl (lv_at hl 0 rfl) ?_
  refine lv_iconst (v := nI 4) hx hb dX2_init_27 (by decide) ?_
  refine gv_newi hx hb (hts (.arrayClass .int) (by decide +kernel)) hK hP hD hS hA (by decide) (Nat.le_of_ble_eq_true rfl) (Nat.le_of_ble_eq_true rfl) dX2_init_28 (fun q_5 H hP hD hS => ?_)
  have hP : va_P (dC, dI) vwCl [(o, .inr (2, [.ref ci_1, .ref q_2, .ref q_3, .ref q_4, .null, .int (nI 0), .int (nI 0), .int (nI 0)])), (ci_1, .inr (0, [.ref sc_1, .ref mv_1, .int (nI 0)])), (sc_1, .inl (cI, 60, .inl (gA (fun _ => 0)))), (mv_1, .inl (cI, 4, .inl (gA (fun _ => 0)))), (q_2, .inl (cI, 8, .inl (gA (fun _ => 0)))), (q_3, .inl (cI, 4, .inl (gA (fun _ => 0)))), (q_4, .inl (cI, 4, .inl (gA (fun _ => 0)))), (q_5, .inl (cI, 4, .inl (gA (fun _ => 0))))] H := hP
  have hD : va_D A [(o, .inr (2, [.ref ci_1, .ref q_2, .ref q_3, .ref q_4, .null, .int (nI 0), .int (nI 0), .int (nI 0)])), (ci_1, .inr (0, [.ref sc_1, .ref mv_1, .int (nI 0)])), (sc_1, .inl (cI, 60, .inl (gA (fun _ => 0)))), (mv_1, .inl (cI, 4, .inl (gA (fun _ => 0)))), (q_2, .inl (cI, 8, .inl (gA (fun _ => 0)))), (q_3, .inl (cI, 4, .inl (gA (fun _ => 0)))), (q_4, .inl (cI, 4, .inl (gA (fun _ => 0)))), (q_5, .inl (cI, 4, .inl (gA (fun _ => 0))))] := hD
  refine W.widen (k := 7) (n := 87) (by omega) (by omega) ?_
  refine va_putF (own := RX2) (D := (dC, dI)) (ci := 2) (C := RX2) (T := TX2) (N := 8) (v := .ref q_5) hx hb hts (by decide +kernel) tyX2 tyX2_ok nmX2 hown hK hP hD hS 0 rfl rfl 4 (by decide) (hts (.fieldLink RX2 21 "NumeralCipher$FirstWay" "spread" "[I") (by decide +kernel)) (fun _ h9 => h9) rfl hin9 rfl (tyX2_ok 4 (by decide)) rfl rfl (Nat.le_of_ble_eq_true rfl) dX2_init_30 (fun H locs hP hD hS => ?_)
  have hP : va_P (dC, dI) vwCl [(o, .inr (2, [.ref ci_1, .ref q_2, .ref q_3, .ref q_4, .ref q_5, .int (nI 0), .int (nI 0), .int (nI 0)])), (ci_1, .inr (0, [.ref sc_1, .ref mv_1, .int (nI 0)])), (sc_1, .inl (cI, 60, .inl (gA (fun _ => 0)))), (mv_1, .inl (cI, 4, .inl (gA (fun _ => 0)))), (q_2, .inl (cI, 8, .inl (gA (fun _ => 0)))), (q_3, .inl (cI, 4, .inl (gA (fun _ => 0)))), (q_4, .inl (cI, 4, .inl (gA (fun _ => 0)))), (q_5, .inl (cI, 4, .inl (gA (fun _ => 0))))] H := hP
  have hD : va_D A [(o, .inr (2, [.ref ci_1, .ref q_2, .ref q_3, .ref q_4, .ref q_5, .int (nI 0), .int (nI 0), .int (nI 0)])), (ci_1, .inr (0, [.ref sc_1, .ref mv_1, .int (nI 0)])), (sc_1, .inl (cI, 60, .inl (gA (fun _ => 0)))), (mv_1, .inl (cI, 4, .inl (gA (fun _ => 0)))), (q_2, .inl (cI, 8, .inl (gA (fun _ => 0)))), (q_3, .inl (cI, 4, .inl (gA (fun _ => 0)))), (q_4, .inl (cI, 4, .inl (gA (fun _ => 0)))), (q_5, .inl (cI, 4, .inl (gA (fun _ => 0))))] := hD
  exact W.vret hx hb hr (fun t ht hW => ⟨⟨(ci_1, sc_1, mv_1, q_2, q_3, q_4, q_5), rfl, trivial, gB_end ht hW hP hK hD⟩, hS.F ht⟩) hS.2.2 dX2_init_33

set_option maxHeartbeats 4000000 in
set_option maxRecDepth 100000 in
/-- a new X5 -/
theorem c_X5_init (l : Launch) (dC : Nat → ClassId) (dI : Nat → Nat → Nat) (cI : ClassId) (tS : Nat) (sz : Nat) (o : Nat) : Met l yX5_init wsX5_init ({ frames := 3, cells := 4, slots := 71, locals := 64 }) (gPe dC dI cI tS [.ref o] [(o, .inr (5, [.null, .null, .int (nI 0), .int (nI 0)]))] sz) (va_Qv (fun u : Nat × Nat × Nat × Nat => True) (fun u t => gB dC dI cI (va_A [(o, .inr (5, [.null, .null, .int (nI 0), .int (nI 0)]))] sz) [(o, .inr (5, [.ref u.1, .ref u.2.2.2, .int (nI 0), .int (nI 0)])), (u.1, .inr (0, [.ref u.2.1, .ref u.2.2.1, .int (nI 0)])), (u.2.1, .inl (cI, 60, .inl (gA (fun _ => 0)))), (u.2.2.1, .inl (cI, 4, .inl (gA (fun _ => 0)))), (u.2.2.2, .inl (cI, 4, .inl (gA (fun _ => 0))))] t) (va_A [(o, .inr (5, [.null, .null, .int (nI 0), .int (nI 0)]))] sz)) 4 71 (va_A [(o, .inr (5, [.null, .null, .int (nI 0), .int (nI 0)]))] sz) := by
  refine Met.ofW (cc := cX5_init) (maxL := 1) (ret := none) (by decide) rfl ?_
  intro p e s m args below meth c s₁ B9 hml hv
  obtain ⟨rfl, hsz, ⟨hP, hK, hD0⟩, hE⟩ := hv
  have hx := B9.exec
  have hb := B9.bytes
  have hr := B9.returns
  have hts := atoms_spec (ws := wsX5_init) B9.pre
  have hown : s.vm.findClass RX5 = some m.cls := findClass_of_methodNamed B9.named
  have hlocks := B9.notSynchronized
  subst hsz
  have hD := hD0.self (sz := s.heap.size)
  generalize hAe : va_A [(o, .inr (5, [.null, .null, .int (nI 0), .int (nI 0)]))] s.heap.size = A at hD hE ⊢
  have hA : ∀ q : Nat, s.heap.size ≤ q → A q := fun q h => by rw [← hAe]; exact Or.inr h
  have hS : va_S A s.heap s.heap [] := va_S.rf
  have hl := lv_entry ([.ref o]) (n := 1) (Nat.le_of_ble_eq_true rfl)
  rw [lg_entry_eq]
  generalize (lg_sl ([.ref o]) ++ List.replicate (1 - (lg_sl ([.ref o])).length) Slot.unset).toArray = ls at hl ⊢
  have hl : lv_has ls 1 [(0, .ref o)] := hl
  have hin9 : meth.name = "<init>" := (name_of_methodNamed B9.named B9.method).1
  refine lv_aload_n hx hb dX5_init_0 rfl (lv_at hl 0 rfl) ?_
  have hPc := hP.sub (ws' := [(o, .inr (5, [.null, .null, .int (nI 0), .int (nI 0)]))]) [0] rfl
  have hDc := hD.sub (ws' := [(o, .inr (5, [.null, .null, .int (nI 0), .int (nI 0)]))]) [0] (by decide) rfl
  have hFc := va_free (wc := [(o, .inr (5, [.null, .null, .int (nI 0), .int (nI 0)]))]) hD hS hA [0] rfl
  refine va_callv (va_runIN (As := []) (rest := []) ⟨hx, hb, hml, hown, hts⟩ (c_X6_init_5 l dC dI cI tS s.heap.size o ) ⟨va_cnB 0 hts gX5_init_X6_init_n3 rfl rfl rfl (hE.nest (.methodLinkNest "NumeralCipher$SecondWay" 3 ⟨"NumeralCipher$Way", "<init>", "()V"⟩ "NumeralCipher") (by decide +kernel)) (hts (.initialized RX6) (by decide +kernel)) (by decide +kernel) ⟨Nat.le_of_ble_eq_true rfl, Nat.le_of_ble_eq_true rfl⟩, rfl, hts (.instanceMethod yX6_init) (by decide +kernel)⟩ ⟨gPe_blind, gPe_pre hPc hK hDc (hE.at hS) hFc⟩ rfl rfl hl.1 rfl (lv_room (Nat.le_of_ble_eq_true rfl)) dX5_init_1 ⟨Nat.le_of_ble_eq_true rfl, Nat.le_of_ble_eq_true rfl⟩) hS (fun q _ h => hFc q h) hFc (fun u8 t8 H1 locs ht hvm hw hB hz1 hk1 hS => ?_)
  obtain ⟨ci_1, sc_1, mv_1⟩ := u8
  try dsimp only at hw hB
  obtain ⟨hP, hD⟩ := gB_join (wr := []) (w2 := [(o, .inr (5, [.ref ci_1, .null, .int (nI 0), .int (nI 0)])), (ci_1, .inr (0, [.ref sc_1, .ref mv_1, .int (nI 0)])), (sc_1, .inl (cI, 60, .inl (gA (fun _ => 0)))), (mv_1, .inl (cI, 4, .inl (gA (fun _ => 0))))]) hP hD [0] [] rfl rfl (by decide) (by decide) hk1 hFc ht hB rfl
  clear hk1 hz1 ht hB hvm hPc hDc hFc
  generalize H1 = H at hP hS ⊢
  refine W.widen (k := 3) (n := 67) (by omega) (by omega) ?_
  refine lv_aload_n hx hb dX5_init_4 rfl (lv_at hl 0 rfl) ?_
  refine lv_iconst (v := nI 4) hx hb dX5_init_5 (by decide) ?_
  refine gv_newi hx hb (hts (.arrayClass .int) (by decide +kernel)) hK hP hD hS hA (by decide) (Nat.le_of_ble_eq_true rfl) (Nat.le_of_ble_eq_true rfl) dX5_init_6 (fun q_2 H hP hD hS => ?_)
  have hP : va_P (dC, dI) vwCl [(o, .inr (5, [.ref ci_1, .null, .int (nI 0), .int (nI 0)])), (ci_1, .inr (0, [.ref sc_1, .ref mv_1, .int (nI 0)])), (sc_1, .inl (cI, 60, .inl (gA (fun _ => 0)))), (mv_1, .inl (cI, 4, .inl (gA (fun _ => 0)))), (q_2, .inl (cI, 4, .inl (gA (fun _ => 0))))] H := hP
  have hD : va_D A [(o, .inr (5, [.ref ci_1, .null, .int (nI 0), .int (nI 0)])), (ci_1, .inr (0, [.ref sc_1, .ref mv_1, .int (nI 0)])), (sc_1, .inl (cI, 60, .inl (gA (fun _ => 0)))), (mv_1, .inl (cI, 4, .inl (gA (fun _ => 0)))), (q_2, .inl (cI, 4, .inl (gA (fun _ => 0))))] := hD
  refine W.widen (k := 4) (n := 71) (by omega) (by omega) ?_
  refine va_putF (own := RX5) (D := (dC, dI)) (ci := 5) (C := RX5) (T := TX5) (N := 4) (v := .ref q_2) hx hb hts (by decide +kernel) tyX5 tyX5_ok nmX5 hown hK hP hD hS 0 rfl rfl 1 (by decide) (hts (.fieldLink RX5 9 "NumeralCipher$SecondWay" "turned" "[I") (by decide +kernel)) (fun _ h9 => h9) rfl hin9 rfl (tyX5_ok 1 (by decide)) rfl rfl (Nat.le_of_ble_eq_true rfl) dX5_init_8 (fun H locs hP hD hS => ?_)
  have hP : va_P (dC, dI) vwCl [(o, .inr (5, [.ref ci_1, .ref q_2, .int (nI 0), .int (nI 0)])), (ci_1, .inr (0, [.ref sc_1, .ref mv_1, .int (nI 0)])), (sc_1, .inl (cI, 60, .inl (gA (fun _ => 0)))), (mv_1, .inl (cI, 4, .inl (gA (fun _ => 0)))), (q_2, .inl (cI, 4, .inl (gA (fun _ => 0))))] H := hP
  have hD : va_D A [(o, .inr (5, [.ref ci_1, .ref q_2, .int (nI 0), .int (nI 0)])), (ci_1, .inr (0, [.ref sc_1, .ref mv_1, .int (nI 0)])), (sc_1, .inl (cI, 60, .inl (gA (fun _ => 0)))), (mv_1, .inl (cI, 4, .inl (gA (fun _ => 0)))), (q_2, .inl (cI, 4, .inl (gA (fun _ => 0))))] := hD
  exact W.vret hx hb hr (fun t ht hW => ⟨⟨(ci_1, sc_1, mv_1, q_2), rfl, trivial, gB_end ht hW hP hK hD⟩, hS.F ht⟩) hS.2.2 dX5_init_11

set_option maxHeartbeats 4000000 in
set_option maxRecDepth 100000 in
/-- a new X7 -/
theorem c_X7_init (l : Launch) (dC : Nat → ClassId) (dI : Nat → Nat → Nat) (cI : ClassId) (tS : Nat) (sz : Nat) (o : Nat) : Met l yX7_init wsX7_init ({ frames := 4, cells := 24, slots := 458, locals := 87 }) (gPe dC dI cI tS [.ref o] [(o, .inr (6, [.null, .null, .null, .null, .null, .null, .null, .null]))] sz) (va_Qv (fun u : Nat × Nat × Nat × Nat × Nat × Nat × Nat × Nat × Nat × Nat × Nat × Nat × Nat × Nat × Nat × Nat × Nat × Nat × Nat × Nat × Nat × Nat × Nat × Nat × (Nat → Nat) × (Nat → Nat) => (∀ k, k < 4 * (16 / 4 + 7) → u.2.2.2.2.2.2.2.2.2.2.2.2.2.2.2.2.2.2.2.2.2.2.2.2.1 k = pkf (ksS (keyK 0 (fun _ => 0) (16 / 4)) (16 / 4) (3 * (16 / 4) + 28)) k) ∧ (∀ k, k < 4 * (16 / 4 + 7) → u.2.2.2.2.2.2.2.2.2.2.2.2.2.2.2.2.2.2.2.2.2.2.2.2.2 k = pkf (ksS (keyK 1 (fun _ => 0) (16 / 4)) (16 / 4) (3 * (16 / 4) + 28)) k)) (fun u t => gB dC dI cI (va_A [(o, .inr (6, [.null, .null, .null, .null, .null, .null, .null, .null]))] sz) [(o, .inr (6, [.ref u.1, .ref u.2.2.1, .ref u.2.2.2.2.1, .ref u.2.2.2.2.2.2.1, .ref u.2.2.2.2.2.2.2.2.1, .ref u.2.2.2.2.2.2.2.2.2.2.2.2.2.2.2.2.1, .ref u.2.2.2.2.2.2.2.2.2.2.2.2.2.2.2.2.2.2.2.2.2.1, .ref u.2.2.2.2.2.2.2.2.2.2.2.2.2.2.2.2.2.2.2.2.2.2.2.1])), (u.1, .inr (1, [.ref u.2.1, .int (nI 0)])), (u.2.1, .inl (cI, 64, .inl (gA (fun _ => 0)))), (u.2.2.1, .inr (1, [.ref u.2.2.2.1, .int (nI 16)])), (u.2.2.2.1, .inl (cI, 64, .inl (gA (fun _ => 0)))), (u.2.2.2.2.1, .inr (1, [.ref u.2.2.2.2.2.1, .int (nI 0)])), (u.2.2.2.2.2.1, .inl (cI, 64, .inl (gA (fun _ => 0)))), (u.2.2.2.2.2.2.1, .inr (4, [.ref u.2.2.2.2.2.2.2.1, .int (nI 0), .int (nI 10)])), (u.2.2.2.2.2.2.2.1, .inl (cI, 64, .inl (gA (fun _ => 0)))), (u.2.2.2.2.2.2.2.2.1, .inr (2, [.ref u.2.2.2.2.2.2.2.2.2.1, .ref u.2.2.2.2.2.2.2.2.2.2.2.2.1, .ref u.2.2.2.2.2.2.2.2.2.2.2.2.2.1, .ref u.2.2.2.2.2.2.2.2.2.2.2.2.2.2.1, .ref u.2.2.2.2.2.2.2.2.2.2.2.2.2.2.2.1, .int (nI 0), .int (nI 0), .int (nI 0)])), (u.2.2.2.2.2.2.2.2.2.1, .inr (0, [.ref u.2.2.2.2.2.2.2.2.2.2.1, .ref u.2.2.2.2.2.2.2.2.2.2.2.1, .int (nI (16 / 4 + 6))])), (u.2.2.2.2.2.2.2.2.2.2.1, .inl (cI, 60, .inl (gA u.2.2.2.2.2.2.2.2.2.2.2.2.2.2.2.2.2.2.2.2.2.2.2.2.1))), (u.2.2.2.2.2.2.2.2.2.2.2.1, .inl (cI, 4, .inl (gA (fun _ => 0)))), (u.2.2.2.2.2.2.2.2.2.2.2.2.1, .inl (cI, 8, .inl (gA (fun _ => 0)))), (u.2.2.2.2.2.2.2.2.2.2.2.2.2.1, .inl (cI, 4, .inl (gA (fun _ => 0)))), (u.2.2.2.2.2.2.2.2.2.2.2.2.2.2.1, .inl (cI, 4, .inl (gA (fun _ => 0)))), (u.2.2.2.2.2.2.2.2.2.2.2.2.2.2.2.1, .inl (cI, 4, .inl (gA (fun _ => 0)))), (u.2.2.2.2.2.2.2.2.2.2.2.2.2.2.2.2.1, .inr (5, [.ref u.2.2.2.2.2.2.2.2.2.2.2.2.2.2.2.2.2.1, .ref u.2.2.2.2.2.2.2.2.2.2.2.2.2.2.2.2.2.2.2.2.1, .int (nI 0), .int (nI 0)])), (u.2.2.2.2.2.2.2.2.2.2.2.2.2.2.2.2.2.1, .inr (0, [.ref u.2.2.2.2.2.2.2.2.2.2.2.2.2.2.2.2.2.2.1, .ref u.2.2.2.2.2.2.2.2.2.2.2.2.2.2.2.2.2.2.2.1, .int (nI (16 / 4 + 6))])), (u.2.2.2.2.2.2.2.2.2.2.2.2.2.2.2.2.2.2.1, .inl (cI, 60, .inl (gA u.2.2.2.2.2.2.2.2.2.2.2.2.2.2.2.2.2.2.2.2.2.2.2.2.2))), (u.2.2.2.2.2.2.2.2.2.2.2.2.2.2.2.2.2.2.2.1, .inl (cI, 4, .inl (gA (fun _ => 0)))), (u.2.2.2.2.2.2.2.2.2.2.2.2.2.2.2.2.2.2.2.2.1, .inl (cI, 4, .inl (gA (fun _ => 0)))), (u.2.2.2.2.2.2.2.2.2.2.2.2.2.2.2.2.2.2.2.2.2.1, .inr (3, [.ref u.2.2.2.2.2.2.2.2.2.2.2.2.2.2.2.2.2.2.2.2.2.2.1, .int (nI 0)])), (u.2.2.2.2.2.2.2.2.2.2.2.2.2.2.2.2.2.2.2.2.2.2.1, .inl (cI, 17, .inl (gA (fun _ => 0)))), (u.2.2.2.2.2.2.2.2.2.2.2.2.2.2.2.2.2.2.2.2.2.2.2.1, .inl (cI, 4, .inl (gA (fun _ => 0))))] t) (va_A [(o, .inr (6, [.null, .null, .null, .null, .null, .null, .null, .null]))] sz)) 24 458 (va_A [(o, .inr (6, [.null, .null, .null, .null, .null, .null, .null, .null]))] sz) := by
  refine Met.ofW (cc := cX7_init) (maxL := 1) (ret := none) (by decide) rfl ?_
  intro p e s m args below meth c s₁ B9 hml hv
  obtain ⟨rfl, hsz, ⟨hP, hK, hD0⟩, hE⟩ := hv
  have hx := B9.exec
  have hb := B9.bytes
  have hr := B9.returns
  have hts := atoms_spec (ws := wsX7_init) B9.pre
  have hown : s.vm.findClass RX7 = some m.cls := findClass_of_methodNamed B9.named
  have hlocks := B9.notSynchronized
  subst hsz
  have hD := hD0.self (sz := s.heap.size)
  generalize hAe : va_A [(o, .inr (6, [.null, .null, .null, .null, .null, .null, .null, .null]))] s.heap.size = A at hD hE ⊢
  have hA : ∀ q : Nat, s.heap.size ≤ q → A q := fun q h => by rw [← hAe]; exact Or.inr h
  have hS : va_S A s.heap s.heap [] := va_S.rf
  have hl := lv_entry ([.ref o]) (n := 1) (Nat.le_of_ble_eq_true rfl)
  rw [lg_entry_eq]
  generalize (lg_sl ([.ref o]) ++ List.replicate (1 - (lg_sl ([.ref o])).length) Slot.unset).toArray = ls at hl ⊢
  have hl : lv_has ls 1 [(0, .ref o)] := hl
  have hin9 : meth.name = "<init>" := (name_of_methodNamed B9.named B9.method).1
  refine lv_aload_n hx hb dX7_init_0 rfl (lv_at hl 0 rfl) ?_
  refine W.objInit hx hb hown (hts (.methodLink RX7 1 objectInit) (by decide +kernel)) (hts (.instanceMethod objectInit) (by decide +kernel)) (hts (.code objectInit ⟨#[0xb1]⟩ 1 none) (by decide +kernel)) rfl (by rw [hml]; exact hl.1) rfl dX7_init_1 (Nat.le_of_ble_eq_true rfl) (Nat.le_of_ble_eq_true rfl) ?_
  refine W.eq (g2 := F0 m 4 ls []) rfl ?_
  refine lv_aload_n hx hb dX7_init_4 rfl (lv_at hl 0 rfl) ?_
  refine va_new (ci := 1) (fs := [.null, .int (nI 0)]) (C := RX1) (T := TX1) (N := 2) hx hb hts (by decide +kernel) tyX1 tyX1_ok hown (hts (.classLink RX7 7 RX1) (by decide +kernel)) (hts (.instantiable RX1 2) (by decide +kernel)) (hts (.initialized RX1) (by decide +kernel)) hK hP hD hS hA rfl (fun j hj => by rcases (show j = 0 ∨ j = 1 by omega) with rfl | rfl <;> rfl) (Nat.le_of_ble_eq_true rfl) (Nat.le_of_ble_eq_true rfl) dX7_init_5 (fun q_1 H hP hD hS => ?_)
  have hP : va_P (dC, dI) vwCl [(o, .inr (6, [.null, .null, .null, .null, .null, .null, .null, .null])), (q_1, .inr (1, [.null, .int (nI 0)]))] H := hP
  have hD : va_D A [(o, .inr (6, [.null, .null, .null, .null, .null, .null, .null, .null])), (q_1, .inr (1, [.null, .int (nI 0)]))] := hD
  refine W.widen (k := 1) (n := 2) (by omega) (by omega) ?_
  refine lv_dup hx hb dX7_init_8 rfl ?_
  have hPc := hP.sub (ws' := [(q_1, .inr (1, [.null, .int (nI 0)]))]) [1] rfl
  have hDc := hD.sub (ws' := [(q_1, .inr (1, [.null, .int (nI 0)]))]) [1] (by decide) rfl
  have hFc := va_free (wc := [(q_1, .inr (1, [.null, .int (nI 0)]))]) hD hS hA [1] rfl
  refine va_callv (va_runIN (As := []) (rest := [.ref q_1, .ref o]) ⟨hx, hb, hml, hown, hts⟩ (c_X1_init l dC dI cI H.size q_1 ) ⟨va_cnB 0 hts gX7_init_X1_init_n9 rfl rfl rfl (hE.nest (.methodLinkNest "NumeralCipher" 9 ⟨"NumeralCipher$Bytes", "<init>", "()V"⟩ "NumeralCipher") (by decide +kernel)) (hts (.initialized RX1) (by decide +kernel)) (by decide +kernel) ⟨Nat.le_of_ble_eq_true rfl, Nat.le_of_ble_eq_true rfl⟩, rfl, hts (.instanceMethod yX1_init) (by decide +kernel)⟩ ⟨gPc_blind, gPc_pre hPc hK hDc⟩ rfl rfl hl.1 rfl (lv_room (Nat.le_of_ble_eq_true rfl)) dX7_init_9 ⟨Nat.le_of_ble_eq_true rfl, Nat.le_of_ble_eq_true rfl⟩) hS (fun q _ h => hFc q h) hFc (fun u8 t8 H1 locs ht hvm hw hB hz1 hk1 hS => ?_)
  obtain ⟨ce_2, rfl⟩ : ∃ z, z = u8 := ⟨_, rfl⟩
  try dsimp only at hw hB
  obtain ⟨hP, hD⟩ := gB_join (wr := [(o, .inr (6, [.null, .null, .null, .null, .null, .null, .null, .null]))]) (w2 := [(o, .inr (6, [.null, .null, .null, .null, .null, .null, .null, .null])), (q_1, .inr (1, [.ref ce_2, .int (nI 0)])), (ce_2, .inl (cI, 64, .inl (gA (fun _ => 0))))]) hP hD [1] [0] rfl rfl (by decide) (by decide) hk1 hFc ht hB rfl
  clear hk1 hz1 ht hB hvm hPc hDc hFc
  generalize H1 = H at hP hS ⊢
  refine W.widen (k := 2) (n := 66) (by omega) (by omega) ?_
  refine va_putF (own := RX7) (D := (dC, dI)) (ci := 6) (C := RX7) (T := TX7) (N := 8) (v := .ref q_1) hx hb hts (by decide +kernel) tyX7 tyX7_ok nmX7 hown hK hP hD hS 0 rfl rfl 0 (by decide) (hts (.fieldLink RX7 10 "NumeralCipher" "buffer" "LNumeralCipher$Bytes;") (by decide +kernel)) (fun _ h9 => h9) rfl hin9 rfl (tyX7_ok 0 (by decide)) rfl rfl (Nat.le_of_ble_eq_true rfl) dX7_init_12 (fun H locs hP hD hS => ?_)
  have hP : va_P (dC, dI) vwCl [(o, .inr (6, [.ref q_1, .null, .null, .null, .null, .null, .null, .null])), (q_1, .inr (1, [.ref ce_2, .int (nI 0)])), (ce_2, .inl (cI, 64, .inl (gA (fun _ => 0))))] H := hP
  have hD : va_D A [(o, .inr (6, [.ref q_1, .null, .null, .null, .null, .null, .null, .null])), (q_1, .inr (1, [.ref ce_2, .int (nI 0)])), (ce_2, .inl (cI, 64, .inl (gA (fun _ => 0))))] := hD
  refine lv_aload_n hx hb dX7_init_15 rfl (lv_at hl 0 rfl) ?_
  refine va_new (ci := 1) (fs := [.null, .int (nI 0)]) (C := RX1) (T := TX1) (N := 2) hx hb hts (by decide +kernel) tyX1 tyX1_ok hown (hts (.classLink RX7 7 RX1) (by decide +kernel)) (hts (.instantiable RX1 2) (by decide +kernel)) (hts (.initialized RX1) (by decide +kernel)) hK hP hD hS hA rfl (fun j hj => by rcases (show j = 0 ∨ j = 1 by omega) with rfl | rfl <;> rfl) (Nat.le_of_ble_eq_true rfl) (Nat.le_of_ble_eq_true rfl) dX7_init_16 (fun q_3 H hP hD hS => ?_)
  have hP : va_P (dC, dI) vwCl [(o, .inr (6, [.ref q_1, .null, .null, .null, .null, .null, .null, .null])), (q_1, .inr (1, [.ref ce_2, .int (nI 0)])), (ce_2, .inl (cI, 64, .inl (gA (fun _ => 0)))), (q_3, .inr (1, [.null, .int (nI 0)]))] H := hP
  have hD : va_D A [(o, .inr (6, [.ref q_1, .null, .null, .null, .null, .null, .null, .null])), (q_1, .inr (1, [.ref ce_2, .int (nI 0)])), (ce_2, .inl (cI, 64, .inl (gA (fun _ => 0)))), (q_3, .inr (1, [.null, .int (nI 0)]))] := hD
  refine W.widen (k := 3) (n := 68) (by omega) (by omega) ?_
  refine lv_dup hx hb dX7_init_19 rfl ?_
  have hPc := hP.sub (ws' := [(q_3, .inr (1, [.null, .int (nI 0)]))]) [3] rfl
  have hDc := hD.sub (ws' := [(q_3, .inr (1, [.null, .int (nI 0)]))]) [3] (by decide) rfl
  have hFc := va_free (wc := [(q_3, .inr (1, [.null, .int (nI 0)]))]) hD hS hA [3] rfl
  refine va_callv (va_runIN (As := []) (rest := [.ref q_3, .ref o]) ⟨hx, hb, hml, hown, hts⟩ (c_X1_init l dC dI cI H.size q_3 ) ⟨va_cnB 0 hts gX7_init_X1_init_n9 rfl rfl rfl (hE.nest (.methodLinkNest "NumeralCipher" 9 ⟨"NumeralCipher$Bytes", "<init>", "()V"⟩ "NumeralCipher") (by decide +kernel)) (hts (.initialized RX1) (by decide +kernel)) (by decide +kernel) ⟨Nat.le_of_ble_eq_true rfl, Nat.le_of_ble_eq_true rfl⟩, rfl, hts (.instanceMethod yX1_init) (by decide +kernel)⟩ ⟨gPc_blind, gPc_pre hPc hK hDc⟩ rfl rfl hl.1 rfl (lv_room (Nat.le_of_ble_eq_true rfl)) dX7_init_20 ⟨Nat.le_of_ble_eq_true rfl, Nat.le_of_ble_eq_true rfl⟩) hS (fun q _ h => hFc q h) hFc (fun u8 t8 H1 locs ht hvm hw hB hz1 hk1 hS => ?_)
  obtain ⟨ce_4, rfl⟩ : ∃ z, z = u8 := ⟨_, rfl⟩
  try dsimp only at hw hB
  obtain ⟨hP, hD⟩ := gB_join (wr := [(o, .inr (6, [.ref q_1, .null, .null, .null, .null, .null, .null, .null])), (q_1, .inr (1, [.ref ce_2, .int (nI 0)])), (ce_2, .inl (cI, 64, .inl (gA (fun _ => 0))))]) (w2 := [(o, .inr (6, [.ref q_1, .null, .null, .null, .null, .null, .null, .null])), (q_1, .inr (1, [.ref ce_2, .int (nI 0)])), (ce_2, .inl (cI, 64, .inl (gA (fun _ => 0)))), (q_3, .inr (1, [.ref ce_4, .int (nI 0)])), (ce_4, .inl (cI, 64, .inl (gA (fun _ => 0))))]) hP hD [3] [0, 1, 2] rfl rfl (by decide) (by decide) hk1 hFc ht hB rfl
  clear hk1 hz1 ht hB hvm hPc hDc hFc
  generalize H1 = H at hP hS ⊢
  refine W.widen (k := 4) (n := 132) (by omega) (by omega) ?_
  refine va_putF (own := RX7) (D := (dC, dI)) (ci := 6) (C := RX7) (T := TX7) (N := 8) (v := .ref q_3) hx hb hts (by decide +kernel) tyX7 tyX7_ok nmX7 hown hK hP hD hS 0 rfl rfl 1 (by decide) (hts (.fieldLink RX7 16 "NumeralCipher" "keyBytes" "LNumeralCipher$Bytes;") (by decide +kernel)) (fun _ h9 => h9) rfl hin9 rfl (tyX7_ok 1 (by decide)) rfl rfl (Nat.le_of_ble_eq_true rfl) dX7_init_23 (fun H locs hP hD hS => ?_)
  have hP : va_P (dC, dI) vwCl [(o, .inr (6, [.ref q_1, .ref q_3, .null, .null, .null, .null, .null, .null])), (q_1, .inr (1, [.ref ce_2, .int (nI 0)])), (ce_2, .inl (cI, 64, .inl (gA (fun _ => 0)))), (q_3, .inr (1, [.ref ce_4, .int (nI 0)])), (ce_4, .inl (cI, 64, .inl (gA (fun _ => 0))))] H := hP
  have hD : va_D A [(o, .inr (6, [.ref q_1, .ref q_3, .null, .null, .null, .null, .null, .null])), (q_1, .inr (1, [.ref ce_2, .int (nI 0)])), (ce_2, .inl (cI, 64, .inl (gA (fun _ => 0)))), (q_3, .inr (1, [.ref ce_4, .int (nI 0)])), (ce_4, .inl (cI, 64, .inl (gA (fun _ => 0))))] := hD
  refine lv_aload_n hx hb dX7_init_26 rfl (lv_at hl 0 rfl) ?_
  refine va_new (ci := 1) (fs := [.null, .int (nI 0)]) (C := RX1) (T := TX1) (N := 2) hx hb hts (by decide +kernel) tyX1 tyX1_ok hown (hts (.classLink RX7 7 RX1) (by decide +kernel)) (hts (.instantiable RX1 2) (by decide +kernel)) (hts (.initialized RX1) (by decide +kernel)) hK hP hD hS hA rfl (fun j hj => by rcases (show j = 0 ∨ j = 1 by omega) with rfl | rfl <;> rfl) (Nat.le_of_ble_eq_true rfl) (Nat.le_of_ble_eq_true rfl) dX7_init_27 (fun q_5 H hP hD hS => ?_)
  have hP : va_P (dC, dI) vwCl [(o, .inr (6, [.ref q_1, .ref q_3, .null, .null, .null, .null, .null, .null])), (q_1, .inr (1, [.ref ce_2, .int (nI 0)])), (ce_2, .inl (cI, 64, .inl (gA (fun _ => 0)))), (q_3, .inr (1, [.ref ce_4, .int (nI 0)])), (ce_4, .inl (cI, 64, .inl (gA (fun _ => 0)))), (q_5, .inr (1, [.null, .int (nI 0)]))] H := hP
  have hD : va_D A [(o, .inr (6, [.ref q_1, .ref q_3, .null, .null, .null, .null, .null, .null])), (q_1, .inr (1, [.ref ce_2, .int (nI 0)])), (ce_2, .inl (cI, 64, .inl (gA (fun _ => 0)))), (q_3, .inr (1, [.ref ce_4, .int (nI 0)])), (ce_4, .inl (cI, 64, .inl (gA (fun _ => 0)))), (q_5, .inr (1, [.null, .int (nI 0)]))] := hD
  refine W.widen (k := 5) (n := 134) (by omega) (by omega) ?_
  refine lv_dup hx hb dX7_init_30 rfl ?_
  have hPc := hP.sub (ws' := [(q_5, .inr (1, [.null, .int (nI 0)]))]) [5] rfl
  have hDc := hD.sub (ws' := [(q_5, .inr (1, [.null, .int (nI 0)]))]) [5] (by decide) rfl
  have hFc := va_free (wc := [(q_5, .inr (1, [.null, .int (nI 0)]))]) hD hS hA [5] rfl
  refine va_callv (va_runIN (As := []) (rest := [.ref q_5, .ref o]) ⟨hx, hb, hml, hown, hts⟩ (c_X1_init l dC dI cI H.size q_5 ) ⟨va_cnB 0 hts gX7_init_X1_init_n9 rfl rfl rfl (hE.nest (.methodLinkNest "NumeralCipher" 9 ⟨"NumeralCipher$Bytes", "<init>", "()V"⟩ "NumeralCipher") (by decide +kernel)) (hts (.initialized RX1) (by decide +kernel)) (by decide +kernel) ⟨Nat.le_of_ble_eq_true rfl, Nat.le_of_ble_eq_true rfl⟩, rfl, hts (.instanceMethod yX1_init) (by decide +kernel)⟩ ⟨gPc_blind, gPc_pre hPc hK hDc⟩ rfl rfl hl.1 rfl (lv_room (Nat.le_of_ble_eq_true rfl)) dX7_init_31 ⟨Nat.le_of_ble_eq_true rfl, Nat.le_of_ble_eq_true rfl⟩) hS (fun q _ h => hFc q h) hFc (fun u8 t8 H1 locs ht hvm hw hB hz1 hk1 hS => ?_)
  obtain ⟨ce_6, rfl⟩ : ∃ z, z = u8 := ⟨_, rfl⟩
  try dsimp only at hw hB
  obtain ⟨hP, hD⟩ := gB_join (wr := [(o, .inr (6, [.ref q_1, .ref q_3, .null, .null, .null, .null, .null, .null])), (q_1, .inr (1, [.ref ce_2, .int (nI 0)])), (ce_2, .inl (cI, 64, .inl (gA (fun _ => 0)))), (q_3, .inr (1, [.ref ce_4, .int (nI 0)])), (ce_4, .inl (cI, 64, .inl (gA (fun _ => 0))))]) (w2 := [(o, .inr (6, [.ref q_1, .ref q_3, .null, .null, .null, .null, .null, .null])), (q_1, .inr (1, [.ref ce_2, .int (nI 0)])), (ce_2, .inl (cI, 64, .inl (gA (fun _ => 0)))), (q_3, .inr (1, [.ref ce_4, .int (nI 0)])), (ce_4, .inl (cI, 64, .inl (gA (fun _ => 0)))), (q_5, .inr (1, [.ref ce_6, .int (nI 0)])), (ce_6, .inl (cI, 64, .inl (gA (fun _ => 0))))]) hP hD [5] [0, 1, 2, 3, 4] rfl rfl (by decide) (by decide) hk1 hFc ht hB rfl
  clear hk1 hz1 ht hB hvm hPc hDc hFc
  generalize H1 = H at hP hS ⊢
  refine W.widen (k := 6) (n := 198) (by omega) (by omega) ?_
  refine va_putF (own := RX7) (D := (dC, dI)) (ci := 6) (C := RX7) (T := TX7) (N := 8) (v := .ref q_5) hx hb hts (by decide +kernel) tyX7 tyX7_ok nmX7 hown hK hP hD hS 0 rfl rfl 2 (by decide) (hts (.fieldLink RX7 19 "NumeralCipher" "tweakBytes" "LNumeralCipher$Bytes;") (by decide +kernel)) (fun _ h9 => h9) rfl hin9 rfl (tyX7_ok 2 (by decide)) rfl rfl (Nat.le_of_ble_eq_true rfl) dX7_init_34 (fun H locs hP hD hS => ?_)
  have hP : va_P (dC, dI) vwCl [(o, .inr (6, [.ref q_1, .ref q_3, .ref q_5, .null, .null, .null, .null, .null])), (q_1, .inr (1, [.ref ce_2, .int (nI 0)])), (ce_2, .inl (cI, 64, .inl (gA (fun _ => 0)))), (q_3, .inr (1, [.ref ce_4, .int (nI 0)])), (ce_4, .inl (cI, 64, .inl (gA (fun _ => 0)))), (q_5, .inr (1, [.ref ce_6, .int (nI 0)])), (ce_6, .inl (cI, 64, .inl (gA (fun _ => 0))))] H := hP
  have hD : va_D A [(o, .inr (6, [.ref q_1, .ref q_3, .ref q_5, .null, .null, .null, .null, .null])), (q_1, .inr (1, [.ref ce_2, .int (nI 0)])), (ce_2, .inl (cI, 64, .inl (gA (fun _ => 0)))), (q_3, .inr (1, [.ref ce_4, .int (nI 0)])), (ce_4, .inl (cI, 64, .inl (gA (fun _ => 0)))), (q_5, .inr (1, [.ref ce_6, .int (nI 0)])), (ce_6, .inl (cI, 64, .inl (gA (fun _ => 0))))] := hD
  refine lv_aload_n hx hb dX7_init_37 rfl (lv_at hl 0 rfl) ?_
  refine va_new (ci := 4) (fs := [.null, .int (nI 0), .int (nI 0)]) (C := RX4) (T := TX4) (N := 3) hx hb hts (by decide +kernel) tyX4 tyX4_ok hown (hts (.classLink RX7 22 RX4) (by decide +kernel)) (hts (.instantiable RX4 3) (by decide +kernel)) (hts (.initialized RX4) (by decide +kernel)) hK hP hD hS hA rfl (fun j hj => by rcases (show j = 0 ∨ j = 1 ∨ j = 2 by omega) with rfl | rfl | rfl <;> rfl) (Nat.le_of_ble_eq_true rfl) (Nat.le_of_ble_eq_true rfl) dX7_init_38 (fun q_7 H hP hD hS => ?_)
  have hP : va_P (dC, dI) vwCl [(o, .inr (6, [.ref q_1, .ref q_3, .ref q_5, .null, .null, .null, .null, .null])), (q_1, .inr (1, [.ref ce_2, .int (nI 0)])), (ce_2, .inl (cI, 64, .inl (gA (fun _ => 0)))), (q_3, .inr (1, [.ref ce_4, .int (nI 0)])), (ce_4, .inl (cI, 64, .inl (gA (fun _ => 0)))), (q_5, .inr (1, [.ref ce_6, .int (nI 0)])), (ce_6, .inl (cI, 64, .inl (gA (fun _ => 0)))), (q_7, .inr (4, [.null, .int (nI 0), .int (nI 0)]))] H := hP
  have hD : va_D A [(o, .inr (6, [.ref q_1, .ref q_3, .ref q_5, .null, .null, .null, .null, .null])), (q_1, .inr (1, [.ref ce_2, .int (nI 0)])), (ce_2, .inl (cI, 64, .inl (gA (fun _ => 0)))), (q_3, .inr (1, [.ref ce_4, .int (nI 0)])), (ce_4, .inl (cI, 64, .inl (gA (fun _ => 0)))), (q_5, .inr (1, [.ref ce_6, .int (nI 0)])), (ce_6, .inl (cI, 64, .inl (gA (fun _ => 0)))), (q_7, .inr (4, [.null, .int (nI 0), .int (nI 0)]))] := hD
  refine W.widen (k := 7) (n := 201) (by omega) (by omega) ?_
  refine lv_dup hx hb dX7_init_41 rfl ?_
  have hPc := hP.sub (ws' := [(q_7, .inr (4, [.null, .int (nI 0), .int (nI 0)]))]) [7] rfl
  have hDc := hD.sub (ws' := [(q_7, .inr (4, [.null, .int (nI 0), .int (nI 0)]))]) [7] (by decide) rfl
  have hFc := va_free (wc := [(q_7, .inr (4, [.null, .int (nI 0), .int (nI 0)]))]) hD hS hA [7] rfl
  refine va_callv (va_runIN (As := []) (rest := [.ref q_7, .ref o]) ⟨hx, hb, hml, hown, hts⟩ (c_X4_init l dC dI cI H.size q_7 ) ⟨va_cnB 0 hts gX7_init_X4_init_n24 rfl rfl rfl (hE.nest (.methodLinkNest "NumeralCipher" 24 ⟨"NumeralCipher$Row", "<init>", "()V"⟩ "NumeralCipher") (by decide +kernel)) (hts (.initialized RX4) (by decide +kernel)) (by decide +kernel) ⟨Nat.le_of_ble_eq_true rfl, Nat.le_of_ble_eq_true rfl⟩, rfl, hts (.instanceMethod yX4_init) (by decide +kernel)⟩ ⟨gPc_blind, gPc_pre hPc hK hDc⟩ rfl rfl hl.1 rfl (lv_room (Nat.le_of_ble_eq_true rfl)) dX7_init_42 ⟨Nat.le_of_ble_eq_true rfl, Nat.le_of_ble_eq_true rfl⟩) hS (fun q _ h => hFc q h) hFc (fun u8 t8 H1 locs ht hvm hw hB hz1 hk1 hS => ?_)
  obtain ⟨ce_8, rfl⟩ : ∃ z, z = u8 := ⟨_, rfl⟩
  try dsimp only at hw hB
  obtain ⟨hP, hD⟩ := gB_join (wr := [(o, .inr (6, [.ref q_1, .ref q_3, .ref q_5, .null, .null, .null, .null, .null])), (q_1, .inr (1, [.ref ce_2, .int (nI 0)])), (ce_2, .inl (cI, 64, .inl (gA (fun _ => 0)))), (q_3, .inr (1, [.ref ce_4, .int (nI 0)])), (ce_4, .inl (cI, 64, .inl (gA (fun _ => 0)))), (q_5, .inr (1, [.ref ce_6, .int (nI 0)])), (ce_6, .inl (cI, 64, .inl (gA (fun _ => 0))))]) (w2 := [(o, .inr (6, [.ref q_1, .ref q_3, .ref q_5, .null, .null, .null, .null, .null])), (q_1, .inr (1, [.ref ce_2, .int (nI 0)])), (ce_2, .inl (cI, 64, .inl (gA (fun _ => 0)))), (q_3, .inr (1, [.ref ce_4, .int (nI 0)])), (ce_4, .inl (cI, 64, .inl (gA (fun _ => 0)))), (q_5, .inr (1, [.ref ce_6, .int (nI 0)])), (ce_6, .inl (cI, 64, .inl (gA (fun _ => 0)))), (q_7, .inr (4, [.ref ce_8, .int (nI 0), .int (nI 10)])), (ce_8, .inl (cI, 64, .inl (gA (fun _ => 0))))]) hP hD [7] [0, 1, 2, 3, 4, 5, 6] rfl rfl (by decide) (by decide) hk1 hFc ht hB rfl
  clear hk1 hz1 ht hB hvm hPc hDc hFc
  generalize H1 = H at hP hS ⊢
  refine W.widen (k := 8) (n := 265) (by omega) (by omega) ?_
  refine va_putF (own := RX7) (D := (dC, dI)) (ci := 6) (C := RX7) (T := TX7) (N := 8) (v := .ref q_7) hx hb hts (by decide +kernel) tyX7 tyX7_ok nmX7 hown hK hP hD hS 0 rfl rfl 3 (by decide) (hts (.fieldLink RX7 25 "NumeralCipher" "row" "LNumeralCipher$Row;") (by decide +kernel)) (fun _ h9 => h9) rfl hin9 rfl (tyX7_ok 3 (by decide)) rfl rfl (Nat.le_of_ble_eq_true rfl) dX7_init_45 (fun H locs hP hD hS => ?_)
  have hP : va_P (dC, dI) vwCl [(o, .inr (6, [.ref q_1, .ref q_3, .ref q_5, .ref q_7, .null, .null, .null, .null])), (q_1, .inr (1, [.ref ce_2, .int (nI 0)])), (ce_2, .inl (cI, 64, .inl (gA (fun _ => 0)))), (q_3, .inr (1, [.ref ce_4, .int (nI 0)])), (ce_4, .inl (cI, 64, .inl (gA (fun _ => 0)))), (q_5, .inr (1, [.ref ce_6, .int (nI 0)])), (ce_6, .inl (cI, 64, .inl (gA (fun _ => 0)))), (q_7, .inr (4, [.ref ce_8, .int (nI 0), .int (nI 10)])), (ce_8, .inl (cI, 64, .inl (gA (fun _ => 0))))] H := hP
  have hD : va_D A [(o, .inr (6, [.ref q_1, .ref q_3, .ref q_5, .ref q_7, .null, .null, .null, .null])), (q_1, .inr (1, [.ref ce_2, .int (nI 0)])), (ce_2, .inl (cI, 64, .inl (gA (fun _ => 0)))), (q_3, .inr (1, [.ref ce_4, .int (nI 0)])), (ce_4, .inl (cI, 64, .inl (gA (fun _ => 0)))), (q_5, .inr (1, [.ref ce_6, .int (nI 0)])), (ce_6, .inl (cI, 64, .inl (gA (fun _ => 0)))), (q_7, .inr (4, [.ref ce_8, .int (nI 0), .int (nI 10)])), (ce_8, .inl (cI, 64, .inl (gA (fun _ => 0))))] := hD
  refine lv_aload_n hx hb dX7_init_48 rfl (lv_at hl 0 rfl) ?_
  refine va_new (ci := 2) (fs := [.null, .null, .null, .null, .null, .int (nI 0), .int (nI 0), .int (nI 0)]) (C := RX2) (T := TX2) (N := 8) hx hb hts (by decide +kernel) tyX2 tyX2_ok hown (hts (.classLink RX7 29 RX2) (by decide +kernel)) (hts (.instantiable RX2 8) (by decide +kernel)) (hts (.initialized RX2) (by decide +kernel)) hK hP hD hS hA rfl (fun j hj => by rcases (show j = 0 ∨ j = 1 ∨ j = 2 ∨ j = 3 ∨ j = 4 ∨ j = 5 ∨ j = 6 ∨ j = 7 by omega) with rfl | rfl | rfl | rfl | rfl | rfl | rfl | rfl <;> rfl) (Nat.le_of_ble_eq_true rfl) (Nat.le_of_ble_eq_true rfl) dX7_init_49 (fun q_9 H hP hD hS => ?_)
  have hP : va_P (dC, dI) vwCl [(o, .inr (6, [.ref q_1, .ref q_3, .ref q_5, .ref q_7, .null, .null, .null, .null])), (q_1, .inr (1, [.ref ce_2, .int (nI 0)])), (ce_2, .inl (cI, 64, .inl (gA (fun _ => 0)))), (q_3, .inr (1, [.ref ce_4, .int (nI 0)])), (ce_4, .inl (cI, 64, .inl (gA (fun _ => 0)))), (q_5, .inr (1, [.ref ce_6, .int (nI 0)])), (ce_6, .inl (cI, 64, .inl (gA (fun _ => 0)))), (q_7, .inr (4, [.ref ce_8, .int (nI 0), .int (nI 10)])), (ce_8, .inl (cI, 64, .inl (gA (fun _ => 0)))), (q_9, .inr (2, [.null, .null, .null, .null, .null, .int (nI 0), .int (nI 0), .int (nI 0)]))] H := hP
  have hD : va_D A [(o, .inr (6, [.ref q_1, .ref q_3, .ref q_5, .ref q_7, .null, .null, .null, .null])), (q_1, .inr (1, [.ref ce_2, .int (nI 0)])), (ce_2, .inl (cI, 64, .inl (gA (fun _ => 0)))), (q_3, .inr (1, [.ref ce_4, .int (nI 0)])), (ce_4, .inl (cI, 64, .inl (gA (fun _ => 0)))), (q_5, .inr (1, [.ref ce_6, .int (nI 0)])), (ce_6, .inl (cI, 64, .inl (gA (fun _ => 0)))), (q_7, .inr (4, [.ref ce_8, .int (nI 0), .int (nI 10)])), (ce_8, .inl (cI, 64, .inl (gA (fun _ => 0)))), (q_9, .inr (2, [.null, .null, .null, .null, .null, .int (nI 0), .int (nI 0), .int (nI 0)]))] := hD
  refine W.widen (k := 9) (n := 273) (by omega) (by omega) ?_
  refine lv_dup hx hb dX7_init_52 rfl ?_
  have hPc := hP.sub (ws' := [(q_9, .inr (2, [.null, .null, .null, .null, .null, .int (nI 0), .int (nI 0), .int (nI 0)]))]) [9] rfl
  have hDc := hD.sub (ws' := [(q_9, .inr (2, [.null, .null, .null, .null, .null, .int (nI 0), .int (nI 0), .int (nI 0)]))]) [9] (by decide) rfl
  have hFc := va_free (wc := [(q_9, .inr (2, [.null, .null, .null, .null, .null, .int (nI 0), .int (nI 0), .int (nI 0)]))]) hD hS hA [9] rfl
  refine va_callv (va_runIN (As := []) (rest := [.ref q_9, .ref o]) ⟨hx, hb, hml, hown, hts⟩ (c_X2_init l dC dI cI tS H.size q_9 ) ⟨va_cnB 0 hts gX7_init_X2_init_n31 rfl rfl rfl (hE.nest (.methodLinkNest "NumeralCipher" 31 ⟨"NumeralCipher$FirstWay", "<init>", "()V"⟩ "NumeralCipher") (by decide +kernel)) (hts (.initialized RX2) (by decide +kernel)) (by decide +kernel) ⟨Nat.le_of_ble_eq_true rfl, Nat.le_of_ble_eq_true rfl⟩, rfl, hts (.instanceMethod yX2_init) (by decide +kernel)⟩ ⟨gPe_blind, gPe_pre hPc hK hDc (hE.at hS) hFc⟩ rfl rfl hl.1 rfl (lv_room (Nat.le_of_ble_eq_true rfl)) dX7_init_53 ⟨Nat.le_of_ble_eq_true rfl, Nat.le_of_ble_eq_true rfl⟩) hS (fun q _ h => hFc q h) hFc (fun u8 t8 H1 locs ht hvm hw hB hz1 hk1 hS => ?_)
  obtain ⟨ci_10, sc_10, mv_10, tw_10, stt_10, chd_10, spr_10⟩ := u8
  try dsimp only at hw hB
  obtain ⟨hP, hD⟩ := gB_join (wr := [(o, .inr (6, [.ref q_1, .ref q_3, .ref q_5, .ref q_7, .null, .null, .null, .null])), (q_1, .inr (1, [.ref ce_2, .int (nI 0)])), (ce_2, .inl (cI, 64, .inl (gA (fun _ => 0)))), (q_3, .inr (1, [.ref ce_4, .int (nI 0)])), (ce_4, .inl (cI, 64, .inl (gA (fun _ => 0)))), (q_5, .inr (1, [.ref ce_6, .int (nI 0)])), (ce_6, .inl (cI, 64, .inl (gA (fun _ => 0)))), (q_7, .inr (4, [.ref ce_8, .int (nI 0), .int (nI 10)])), (ce_8, .inl (cI, 64, .inl (gA (fun _ => 0))))]) (w2 := [(o, .inr (6, [.ref q_1, .ref q_3, .ref q_5, .ref q_7, .null, .null, .null, .null])), (q_1, .inr (1, [.ref ce_2, .int (nI 0)])), (ce_2, .inl (cI, 64, .inl (gA (fun _ => 0)))), (q_3, .inr (1, [.ref ce_4, .int (nI 0)])), (ce_4, .inl (cI, 64, .inl (gA (fun _ => 0)))), (q_5, .inr (1, [.ref ce_6, .int (nI 0)])), (ce_6, .inl (cI, 64, .inl (gA (fun _ => 0)))), (q_7, .inr (4, [.ref ce_8, .int (nI 0), .int (nI 10)])), (ce_8, .inl (cI, 64, .inl (gA (fun _ => 0)))), (q_9, .inr (2, [.ref ci_10, .ref tw_10, .ref stt_10, .ref chd_10, .ref spr_10, .int (nI 0), .int (nI 0), .int (nI 0)])), (ci_10, .inr (0, [.ref sc_10, .ref mv_10, .int (nI 0)])), (sc_10, .inl (cI, 60, .inl (gA (fun _ => 0)))), (mv_10, .inl (cI, 4, .inl (gA (fun _ => 0)))), (tw_10, .inl (cI, 8, .inl (gA (fun _ => 0)))), (stt_10, .inl (cI, 4, .inl (gA (fun _ => 0)))), (chd_10, .inl (cI, 4, .inl (gA (fun _ => 0)))), (spr_10, .inl (cI, 4, .inl (gA (fun _ => 0))))]) hP hD [9] [0, 1, 2, 3, 4, 5, 6, 7, 8] rfl rfl (by decide) (by decide) hk1 hFc ht hB rfl
  clear hk1 hz1 ht hB hvm hPc hDc hFc
  generalize H1 = H at hP hS ⊢
  refine W.widen (k := 16) (n := 360) (by omega) (by omega) ?_
  refine va_putF (own := RX7) (D := (dC, dI)) (ci := 6) (C := RX7) (T := TX7) (N := 8) (v := .ref q_9) hx hb hts (by decide +kernel) tyX7 tyX7_ok nmX7 hown hK hP hD hS 0 rfl rfl 4 (by decide) (hts (.fieldLink RX7 32 "NumeralCipher" "firstWay" "LNumeralCipher$FirstWay;") (by decide +kernel)) (fun _ h9 => h9) rfl hin9 rfl (tyX7_ok 4 (by decide)) rfl rfl (Nat.le_of_ble_eq_true rfl) dX7_init_56 (fun H locs hP hD hS => ?_)
  have hP : va_P (dC, dI) vwCl [(o, .inr (6, [.ref q_1, .ref q_3, .ref q_5, .ref q_7, .ref q_9, .null, .null, .null])), (q_1, .inr (1, [.ref ce_2, .int (nI 0)])), (ce_2, .inl (cI, 64, .inl (gA (fun _ => 0)))), (q_3, .inr (1, [.ref ce_4, .int (nI 0)])), (ce_4, .inl (cI, 64, .inl (gA (fun _ => 0)))), (q_5, .inr (1, [.ref ce_6, .int (nI 0)])), (ce_6, .inl (cI, 64, .inl (gA (fun _ => 0)))), (q_7, .inr (4, [.ref ce_8, .int (nI 0), .int (nI 10)])), (ce_8, .inl (cI, 64, .inl (gA (fun _ => 0)))), (q_9, .inr (2, [.ref ci_10, .ref tw_10, .ref stt_10, .ref chd_10, .ref spr_10, .int (nI 0), .int (nI 0), .int (nI 0)])), (ci_10, .inr (0, [.ref sc_10, .ref mv_10, .int (nI 0)])), (sc_10, .inl (cI, 60, .inl (gA (fun _ => 0)))), (mv_10, .inl (cI, 4, .inl (gA (fun _ => 0)))), (tw_10, .inl (cI, 8, .inl (gA (fun _ => 0)))), (stt_10, .inl (cI, 4, .inl (gA (fun _ => 0)))), (chd_10, .inl (cI, 4, .inl (gA (fun _ => 0)))), (spr_10, .inl (cI, 4, .inl (gA (fun _ => 0))))] H := hP
  have hD : va_D A [(o, .inr (6, [.ref q_1, .ref q_3, .ref q_5, .ref q_7, .ref q_9, .null, .null, .null])), (q_1, .inr (1, [.ref ce_2, .int (nI 0)])), (ce_2, .inl (cI, 64, .inl (gA (fun _ => 0)))), (q_3, .inr (1, [.ref ce_4, .int (nI 0)])), (ce_4, .inl (cI, 64, .inl (gA (fun _ => 0)))), (q_5, .inr (1, [.ref ce_6, .int (nI 0)])), (ce_6, .inl (cI, 64, .inl (gA (fun _ => 0)))), (q_7, .inr (4, [.ref ce_8, .int (nI 0), .int (nI 10)])), (ce_8, .inl (cI, 64, .inl (gA (fun _ => 0)))), (q_9, .inr (2, [.ref ci_10, .ref tw_10, .ref stt_10, .ref chd_10, .ref spr_10, .int (nI 0), .int (nI 0), .int (nI 0)])), (ci_10, .inr (0, [.ref sc_10, .ref mv_10, .int (nI 0)])), (sc_10, .inl (cI, 60, .inl (gA (fun _ => 0)))), (mv_10, .inl (cI, 4, .inl (gA (fun _ => 0)))), (tw_10, .inl (cI, 8, .inl (gA (fun _ => 0)))), (stt_10, .inl (cI, 4, .inl (gA (fun _ => 0)))), (chd_10, .inl (cI, 4, .inl (gA (fun _ => 0)))), (spr_10, .inl (cI, 4, .inl (gA (fun _ => 0))))] := hD
  refine lv_aload_n hx hb dX7_init_59 rfl (lv_at hl 0 rfl) ?_
  refine va_new (ci := 5) (fs := [.null, .null, .int (nI 0), .int (nI 0)]) (C := RX5) (T := TX5) (N := 4) hx hb hts (by decide +kernel) tyX5 tyX5_ok hown (hts (.classLink RX7 36 RX5) (by decide +kernel)) (hts (.instantiable RX5 4) (by decide +kernel)) (hts (.initialized RX5) (by decide +kernel)) hK hP hD hS hA rfl (fun j hj => by rcases (show j = 0 ∨ j = 1 ∨ j = 2 ∨ j = 3 by omega) with rfl | rfl | rfl | rfl <;> rfl) (Nat.le_of_ble_eq_true rfl) (Nat.le_of_ble_eq_true rfl) dX7_init_60 (fun q_11 H hP hD hS => ?_)
  have hP : va_P (dC, dI) vwCl [(o, .inr (6, [.ref q_1, .ref q_3, .ref q_5, .ref q_7, .ref q_9, .null, .null, .null])), (q_1, .inr (1, [.ref ce_2, .int (nI 0)])), (ce_2, .inl (cI, 64, .inl (gA (fun _ => 0)))), (q_3, .inr (1, [.ref ce_4, .int (nI 0)])), (ce_4, .inl (cI, 64, .inl (gA (fun _ => 0)))), (q_5, .inr (1, [.ref ce_6, .int (nI 0)])), (ce_6, .inl (cI, 64, .inl (gA (fun _ => 0)))), (q_7, .inr (4, [.ref ce_8, .int (nI 0), .int (nI 10)])), (ce_8, .inl (cI, 64, .inl (gA (fun _ => 0)))), (q_9, .inr (2, [.ref ci_10, .ref tw_10, .ref stt_10, .ref chd_10, .ref spr_10, .int (nI 0), .int (nI 0), .int (nI 0)])), (ci_10, .inr (0, [.ref sc_10, .ref mv_10, .int (nI 0)])), (sc_10, .inl (cI, 60, .inl (gA (fun _ => 0)))), (mv_10, .inl (cI, 4, .inl (gA (fun _ => 0)))), (tw_10, .inl (cI, 8, .inl (gA (fun _ => 0)))), (stt_10, .inl (cI, 4, .inl (gA (fun _ => 0)))), (chd_10, .inl (cI, 4, .inl (gA (fun _ => 0)))), (spr_10, .inl (cI, 4, .inl (gA (fun _ => 0)))), (q_11, .inr (5, [.null, .null, .int (nI 0), .int (nI 0)]))] H := hP
  have hD : va_D A [(o, .inr (6, [.ref q_1, .ref q_3, .ref q_5, .ref q_7, .ref q_9, .null, .null, .null])), (q_1, .inr (1, [.ref ce_2, .int (nI 0)])), (ce_2, .inl (cI, 64, .inl (gA (fun _ => 0)))), (q_3, .inr (1, [.ref ce_4, .int (nI 0)])), (ce_4, .inl (cI, 64, .inl (gA (fun _ => 0)))), (q_5, .inr (1, [.ref ce_6, .int (nI 0)])), (ce_6, .inl (cI, 64, .inl (gA (fun _ => 0)))), (q_7, .inr (4, [.ref ce_8, .int (nI 0), .int (nI 10)])), (ce_8, .inl (cI, 64, .inl (gA (fun _ => 0)))), (q_9, .inr (2, [.ref ci_10, .ref tw_10, .ref stt_10, .ref chd_10, .ref spr_10, .int (nI 0), .int (nI 0), .int (nI 0)])), (ci_10, .inr (0, [.ref sc_10, .ref mv_10, .int (nI 0)])), (sc_10, .inl (cI, 60, .inl (gA (fun _ => 0)))), (mv_10, .inl (cI, 4, .inl (gA (fun _ => 0)))), (tw_10, .inl (cI, 8, .inl (gA (fun _ => 0)))), (stt_10, .inl (cI, 4, .inl (gA (fun _ => 0)))), (chd_10, .inl (cI, 4, .inl (gA (fun _ => 0)))), (spr_10, .inl (cI, 4, .inl (gA (fun _ => 0)))), (q_11, .inr (5, [.null, .null, .int (nI 0), .int (nI 0)]))] := hD
  refine W.widen (k := 17) (n := 364) (by omega) (by omega) ?_
  refine lv_dup hx hb dX7_init_63 rfl ?_
  have hPc := hP.sub (ws' := [(q_11, .inr (5, [.null, .null, .int (nI 0), .int (nI 0)]))]) [17] rfl
  have hDc := hD.sub (ws' := [(q_11, .inr (5, [.null, .null, .int (nI 0), .int (nI 0)]))]) [17] (by decide) rfl
  have hFc := va_free (wc := [(q_11, .inr (5, [.null, .null, .int (nI 0), .int (nI 0)]))]) hD hS hA [17] rfl
  refine va_callv (va_runIN (As := []) (rest := [.ref q_11, .ref o]) ⟨hx, hb, hml, hown, hts⟩ (c_X5_init l dC dI cI tS H.size q_11 ) ⟨va_cnB 0 hts gX7_init_X5_init_n38 rfl rfl rfl (hE.nest (.methodLinkNest "NumeralCipher" 38 ⟨"NumeralCipher$SecondWay", "<init>", "()V"⟩ "NumeralCipher") (by decide +kernel)) (hts (.initialized RX5) (by decide +kernel)) (by decide +kernel) ⟨Nat.le_of_ble_eq_true rfl, Nat.le_of_ble_eq_true rfl⟩, rfl, hts (.instanceMethod yX5_init) (by decide +kernel)⟩ ⟨gPe_blind, gPe_pre hPc hK hDc (hE.at hS) hFc⟩ rfl rfl hl.1 rfl (lv_room (Nat.le_of_ble_eq_true rfl)) dX7_init_64 ⟨Nat.le_of_ble_eq_true rfl, Nat.le_of_ble_eq_true rfl⟩) hS (fun q _ h => hFc q h) hFc (fun u8 t8 H1 locs ht hvm hw hB hz1 hk1 hS => ?_)
  obtain ⟨ci_12, sc_12, mv_12, tu_12⟩ := u8
  try dsimp only at hw hB
  obtain ⟨hP, hD⟩ := gB_join (wr := [(o, .inr (6, [.ref q_1, .ref q_3, .ref q_5, .ref q_7, .ref q_9, .null, .null, .null])), (q_1, .inr (1, [.ref ce_2, .int (nI 0)])), (ce_2, .inl (cI, 64, .inl (gA (fun _ => 0)))), (q_3, .inr (1, [.ref ce_4, .int (nI 0)])), (ce_4, .inl (cI, 64, .inl (gA (fun _ => 0)))), (q_5, .inr (1, [.ref ce_6, .int (nI 0)])), (ce_6, .inl (cI, 64, .inl (gA (fun _ => 0)))), (q_7, .inr (4, [.ref ce_8, .int (nI 0), .int (nI 10)])), (ce_8, .inl (cI, 64, .inl (gA (fun _ => 0)))), (q_9, .inr (2, [.ref ci_10, .ref tw_10, .ref stt_10, .ref chd_10, .ref spr_10, .int (nI 0), .int (nI 0), .int (nI 0)])), (ci_10, .inr (0, [.ref sc_10, .ref mv_10, .int (nI 0)])), (sc_10, .inl (cI, 60, .inl (gA (fun _ => 0)))), (mv_10, .inl (cI, 4, .inl (gA (fun _ => 0)))), (tw_10, .inl (cI, 8, .inl (gA (fun _ => 0)))), (stt_10, .inl (cI, 4, .inl (gA (fun _ => 0)))), (chd_10, .inl (cI, 4, .inl (gA (fun _ => 0)))), (spr_10, .inl (cI, 4, .inl (gA (fun _ => 0))))]) (w2 := [(o, .inr (6, [.ref q_1, .ref q_3, .ref q_5, .ref q_7, .ref q_9, .null, .null, .null])), (q_1, .inr (1, [.ref ce_2, .int (nI 0)])), (ce_2, .inl (cI, 64, .inl (gA (fun _ => 0)))), (q_3, .inr (1, [.ref ce_4, .int (nI 0)])), (ce_4, .inl (cI, 64, .inl (gA (fun _ => 0)))), (q_5, .inr (1, [.ref ce_6, .int (nI 0)])), (ce_6, .inl (cI, 64, .inl (gA (fun _ => 0)))), (q_7, .inr (4, [.ref ce_8, .int (nI 0), .int (nI 10)])), (ce_8, .inl (cI, 64, .inl (gA (fun _ => 0)))), (q_9, .inr (2, [.ref ci_10, .ref tw_10, .ref stt_10, .ref chd_10, .ref spr_10, .int (nI 0), .int (nI 0), .int (nI 0)])), (ci_10, .inr (0, [.ref sc_10, .ref mv_10, .int (nI 0)])), (sc_10, .inl (cI, 60, .inl (gA (fun _ => 0)))), (mv_10, .inl (cI, 4, .inl (gA (fun _ => 0)))), (tw_10, .inl (cI, 8, .inl (gA (fun _ => 0)))), (stt_10, .inl (cI, 4, .inl (gA (fun _ => 0)))), (chd_10, .inl (cI, 4, .inl (gA (fun _ => 0)))), (spr_10, .inl (cI, 4, .inl (gA (fun _ => 0)))), (q_11, .inr (5, [.ref ci_12, .ref tu_12, .int (nI 0), .int (nI 0)])), (ci_12, .inr (0, [.ref sc_12, .ref mv_12, .int (nI 0)])), (sc_12, .inl (cI, 60, .inl (gA (fun _ => 0)))), (mv_12, .inl (cI, 4, .inl (gA (fun _ => 0)))), (tu_12, .inl (cI, 4, .inl (gA (fun _ => 0))))]) hP hD [17] [0, 1, 2, 3, 4, 5, 6, 7, 8, 9, 10, 11, 12, 13, 14, 15, 16] rfl rfl (by decide) (by decide) hk1 hFc ht hB rfl
  clear hk1 hz1 ht hB hvm hPc hDc hFc
  generalize H1 = H at hP hS ⊢
  refine W.widen (k := 21) (n := 435) (by omega) (by omega) ?_
  refine va_putF (own := RX7) (D := (dC, dI)) (ci := 6) (C := RX7) (T := TX7) (N := 8) (v := .ref q_11) hx hb hts (by decide +kernel) tyX7 tyX7_ok nmX7 hown hK hP hD hS 0 rfl rfl 5 (by decide) (hts (.fieldLink RX7 39 "NumeralCipher" "secondWay" "LNumeralCipher$SecondWay;") (by decide +kernel)) (fun _ h9 => h9) rfl hin9 rfl (tyX7_ok 5 (by decide)) rfl rfl (Nat.le_of_ble_eq_true rfl) dX7_init_67 (fun H locs hP hD hS => ?_)
  have hP : va_P (dC, dI) vwCl [(o, .inr (6, [.ref q_1, .ref q_3, .ref q_5, .ref q_7, .ref q_9, .ref q_11, .null, .null])), (q_1, .inr (1, [.ref ce_2, .int (nI 0)])), (ce_2, .inl (cI, 64, .inl (gA (fun _ => 0)))), (q_3, .inr (1, [.ref ce_4, .int (nI 0)])), (ce_4, .inl (cI, 64, .inl (gA (fun _ => 0)))), (q_5, .inr (1, [.ref ce_6, .int (nI 0)])), (ce_6, .inl (cI, 64, .inl (gA (fun _ => 0)))), (q_7, .inr (4, [.ref ce_8, .int (nI 0), .int (nI 10)])), (ce_8, .inl (cI, 64, .inl (gA (fun _ => 0)))), (q_9, .inr (2, [.ref ci_10, .ref tw_10, .ref stt_10, .ref chd_10, .ref spr_10, .int (nI 0), .int (nI 0), .int (nI 0)])), (ci_10, .inr (0, [.ref sc_10, .ref mv_10, .int (nI 0)])), (sc_10, .inl (cI, 60, .inl (gA (fun _ => 0)))), (mv_10, .inl (cI, 4, .inl (gA (fun _ => 0)))), (tw_10, .inl (cI, 8, .inl (gA (fun _ => 0)))), (stt_10, .inl (cI, 4, .inl (gA (fun _ => 0)))), (chd_10, .inl (cI, 4, .inl (gA (fun _ => 0)))), (spr_10, .inl (cI, 4, .inl (gA (fun _ => 0)))), (q_11, .inr (5, [.ref ci_12, .ref tu_12, .int (nI 0), .int (nI 0)])), (ci_12, .inr (0, [.ref sc_12, .ref mv_12, .int (nI 0)])), (sc_12, .inl (cI, 60, .inl (gA (fun _ => 0)))), (mv_12, .inl (cI, 4, .inl (gA (fun _ => 0)))), (tu_12, .inl (cI, 4, .inl (gA (fun _ => 0))))] H := hP
  have hD : va_D A [(o, .inr (6, [.ref q_1, .ref q_3, .ref q_5, .ref q_7, .ref q_9, .ref q_11, .null, .null])), (q_1, .inr (1, [.ref ce_2, .int (nI 0)])), (ce_2, .inl (cI, 64, .inl (gA (fun _ => 0)))), (q_3, .inr (1, [.ref ce_4, .int (nI 0)])), (ce_4, .inl (cI, 64, .inl (gA (fun _ => 0)))), (q_5, .inr (1, [.ref ce_6, .int (nI 0)])), (ce_6, .inl (cI, 64, .inl (gA (fun _ => 0)))), (q_7, .inr (4, [.ref ce_8, .int (nI 0), .int (nI 10)])), (ce_8, .inl (cI, 64, .inl (gA (fun _ => 0)))), (q_9, .inr (2, [.ref ci_10, .ref tw_10, .ref stt_10, .ref chd_10, .ref spr_10, .int (nI 0), .int (nI 0), .int (nI 0)])), (ci_10, .inr (0, [.ref sc_10, .ref mv_10, .int (nI 0)])), (sc_10, .inl (cI, 60, .inl (gA (fun _ => 0)))), (mv_10, .inl (cI, 4, .inl (gA (fun _ => 0)))), (tw_10, .inl (cI, 8, .inl (gA (fun _ => 0)))), (stt_10, .inl (cI, 4, .inl (gA (fun _ => 0)))), (chd_10, .inl (cI, 4, .inl (gA (fun _ => 0)))), (spr_10, .inl (cI, 4, .inl (gA (fun _ => 0)))), (q_11, .inr (5, [.ref ci_12, .ref tu_12, .int (nI 0), .int (nI 0)])), (ci_12, .inr (0, [.ref sc_12, .ref mv_12, .int (nI 0)])), (sc_12, .inl (cI, 60, .inl (gA (fun _ => 0)))), (mv_12, .inl (cI, 4, .inl (gA (fun _ => 0)))), (tu_12, .inl (cI, 4, .inl (gA (fun _ => 0))))] := hD
  refine lv_aload_n hx hb dX7_init_70 rfl (lv_at hl 0 rfl) ?_
  refine va_new (ci := 3) (fs := [.null, .int (nI 0)]) (C := RX3) (T := TX3) (N := 2) hx hb hts (by decide +kernel) tyX3 tyX3_ok hown (hts (.classLink RX7 43 RX3) (by decide +kernel)) (hts (.instantiable RX3 2) (by decide +kernel)) (hts (.initialized RX3) (by decide +kernel)) hK hP hD hS hA rfl (fun j hj => by rcases (show j = 0 ∨ j = 1 by omega) with rfl | rfl <;> rfl) (Nat.le_of_ble_eq_true rfl) (Nat.le_of_ble_eq_true rfl) dX7_init_71 (fun q_13 H hP hD hS => ?_)
  have hP : va_P (dC, dI) vwCl [(o, .inr (6, [.ref q_1, .ref q_3, .ref q_5, .ref q_7, .ref q_9, .ref q_11, .null, .null])), (q_1, .inr (1, [.ref ce_2, .int (nI 0)])), (ce_2, .inl (cI, 64, .inl (gA (fun _ => 0)))), (q_3, .inr (1, [.ref ce_4, .int (nI 0)])), (ce_4, .inl (cI, 64, .inl (gA (fun _ => 0)))), (q_5, .inr (1, [.ref ce_6, .int (nI 0)])), (ce_6, .inl (cI, 64, .inl (gA (fun _ => 0)))), (q_7, .inr (4, [.ref ce_8, .int (nI 0), .int (nI 10)])), (ce_8, .inl (cI, 64, .inl (gA (fun _ => 0)))), (q_9, .inr (2, [.ref ci_10, .ref tw_10, .ref stt_10, .ref chd_10, .ref spr_10, .int (nI 0), .int (nI 0), .int (nI 0)])), (ci_10, .inr (0, [.ref sc_10, .ref mv_10, .int (nI 0)])), (sc_10, .inl (cI, 60, .inl (gA (fun _ => 0)))), (mv_10, .inl (cI, 4, .inl (gA (fun _ => 0)))), (tw_10, .inl (cI, 8, .inl (gA (fun _ => 0)))), (stt_10, .inl (cI, 4, .inl (gA (fun _ => 0)))), (chd_10, .inl (cI, 4, .inl (gA (fun _ => 0)))), (spr_10, .inl (cI, 4, .inl (gA (fun _ => 0)))), (q_11, .inr (5, [.ref ci_12, .ref tu_12, .int (nI 0), .int (nI 0)])), (ci_12, .inr (0, [.ref sc_12, .ref mv_12, .int (nI 0)])), (sc_12, .inl (cI, 60, .inl (gA (fun _ => 0)))), (mv_12, .inl (cI, 4, .inl (gA (fun _ => 0)))), (tu_12, .inl (cI, 4, .inl (gA (fun _ => 0)))), (q_13, .inr (3, [.null, .int (nI 0)]))] H := hP
  have hD : va_D A [(o, .inr (6, [.ref q_1, .ref q_3, .ref q_5, .ref q_7, .ref q_9, .ref q_11, .null, .null])), (q_1, .inr (1, [.ref ce_2, .int (nI 0)])), (ce_2, .inl (cI, 64, .inl (gA (fun _ => 0)))), (q_3, .inr (1, [.ref ce_4, .int (nI 0)])), (ce_4, .inl (cI, 64, .inl (gA (fun _ => 0)))), (q_5, .inr (1, [.ref ce_6, .int (nI 0)])), (ce_6, .inl (cI, 64, .inl (gA (fun _ => 0)))), (q_7, .inr (4, [.ref ce_8, .int (nI 0), .int (nI 10)])), (ce_8, .inl (cI, 64, .inl (gA (fun _ => 0)))), (q_9, .inr (2, [.ref ci_10, .ref tw_10, .ref stt_10, .ref chd_10, .ref spr_10, .int (nI 0), .int (nI 0), .int (nI 0)])), (ci_10, .inr (0, [.ref sc_10, .ref mv_10, .int (nI 0)])), (sc_10, .inl (cI, 60, .inl (gA (fun _ => 0)))), (mv_10, .inl (cI, 4, .inl (gA (fun _ => 0)))), (tw_10, .inl (cI, 8, .inl (gA (fun _ => 0)))), (stt_10, .inl (cI, 4, .inl (gA (fun _ => 0)))), (chd_10, .inl (cI, 4, .inl (gA (fun _ => 0)))), (spr_10, .inl (cI, 4, .inl (gA (fun _ => 0)))), (q_11, .inr (5, [.ref ci_12, .ref tu_12, .int (nI 0), .int (nI 0)])), (ci_12, .inr (0, [.ref sc_12, .ref mv_12, .int (nI 0)])), (sc_12, .inl (cI, 60, .inl (gA (fun _ => 0)))), (mv_12, .inl (cI, 4, .inl (gA (fun _ => 0)))), (tu_12, .inl (cI, 4, .inl (gA (fun _ => 0)))), (q_13, .inr (3, [.null, .int (nI 0)]))] := hD
  refine W.widen (k := 22) (n := 437) (by omega) (by omega) ?_
  refine lv_dup hx hb dX7_init_74 rfl ?_
  have hPc := hP.sub (ws' := [(q_13, .inr (3, [.null, .int (nI 0)]))]) [22] rfl
  have hDc := hD.sub (ws' := [(q_13, .inr (3, [.null, .int (nI 0)]))]) [22] (by decide) rfl
  have hFc := va_free (wc := [(q_13, .inr (3, [.null, .int (nI 0)]))]) hD hS hA [22] rfl
  refine va_callv (va_runIN (As := []) (rest := [.ref q_13, .ref o]) ⟨hx, hb, hml, hown, hts⟩ (c_X3_init l dC dI cI H.size q_13 ) ⟨va_cnB 0 hts gX7_init_X3_init_n45 rfl rfl rfl (hE.nest (.methodLinkNest "NumeralCipher" 45 ⟨"NumeralCipher$Natural", "<init>", "()V"⟩ "NumeralCipher") (by decide +kernel)) (hts (.initialized RX3) (by decide +kernel)) (by decide +kernel) ⟨Nat.le_of_ble_eq_true rfl, Nat.le_of_ble_eq_true rfl⟩, rfl, hts (.instanceMethod yX3_init) (by decide +kernel)⟩ ⟨gPc_blind, gPc_pre hPc hK hDc⟩ rfl rfl hl.1 rfl (lv_room (Nat.le_of_ble_eq_true rfl)) dX7_init_75 ⟨Nat.le_of_ble_eq_true rfl, Nat.le_of_ble_eq_true rfl⟩) hS (fun q _ h => hFc q h) hFc (fun u8 t8 H1 locs ht hvm hw hB hz1 hk1 hS => ?_)
  obtain ⟨ce_14, rfl⟩ : ∃ z, z = u8 := ⟨_, rfl⟩
  try dsimp only at hw hB
  obtain ⟨hP, hD⟩ := gB_join (wr := [(o, .inr (6, [.ref q_1, .ref q_3, .ref q_5, .ref q_7, .ref q_9, .ref q_11, .null, .null])), (q_1, .inr (1, [.ref ce_2, .int (nI 0)])), (ce_2, .inl (cI, 64, .inl (gA (fun _ => 0)))), (q_3, .inr (1, [.ref ce_4, .int (nI 0)])), (ce_4, .inl (cI, 64, .inl (gA (fun _ => 0)))), (q_5, .inr (1, [.ref ce_6, .int (nI 0)])), (ce_6, .inl (cI, 64, .inl (gA (fun _ => 0)))), (q_7, .inr (4, [.ref ce_8, .int (nI 0), .int (nI 10)])), (ce_8, .inl (cI, 64, .inl (gA (fun _ => 0)))), (q_9, .inr (2, [.ref ci_10, .ref tw_10, .ref stt_10, .ref chd_10, .ref spr_10, .int (nI 0), .int (nI 0), .int (nI 0)])), (ci_10, .inr (0, [.ref sc_10, .ref mv_10, .int (nI 0)])), (sc_10, .inl (cI, 60, .inl (gA (fun _ => 0)))), (mv_10, .inl (cI, 4, .inl (gA (fun _ => 0)))), (tw_10, .inl (cI, 8, .inl (gA (fun _ => 0)))), (stt_10, .inl (cI, 4, .inl (gA (fun _ => 0)))), (chd_10, .inl (cI, 4, .inl (gA (fun _ => 0)))), (spr_10, .inl (cI, 4, .inl (gA (fun _ => 0)))), (q_11, .inr (5, [.ref ci_12, .ref tu_12, .int (nI 0), .int (nI 0)])), (ci_12, .inr (0, [.ref sc_12, .ref mv_12, .int (nI 0)])), (sc_12, .inl (cI, 60, .inl (gA (fun _ => 0)))), (mv_12, .inl (cI, 4, .inl (gA (fun _ => 0)))), (tu_12, .inl (cI, 4, .inl (gA (fun _ => 0))))]) (w2 := [(o, .inr (6, [.ref q_1, .ref q_3, .ref q_5, .ref q_7, .ref q_9, .ref q_11, .null, .null])), (q_1, .inr (1, [.ref ce_2, .int (nI 0)])), (ce_2, .inl (cI, 64, .inl (gA (fun _ => 0)))), (q_3, .inr (1, [.ref ce_4, .int (nI 0)])), (ce_4, .inl (cI, 64, .inl (gA (fun _ => 0)))), (q_5, .inr (1, [.ref ce_6, .int (nI 0)])), (ce_6, .inl (cI, 64, .inl (gA (fun _ => 0)))), (q_7, .inr (4, [.ref ce_8, .int (nI 0), .int (nI 10)])), (ce_8, .inl (cI, 64, .inl (gA (fun _ => 0)))), (q_9, .inr (2, [.ref ci_10, .ref tw_10, .ref stt_10, .ref chd_10, .ref spr_10, .int (nI 0), .int (nI 0), .int (nI 0)])), (ci_10, .inr (0, [.ref sc_10, .ref mv_10, .int (nI 0)])), (sc_10, .inl (cI, 60, .inl (gA (fun _ => 0)))), (mv_10, .inl (cI, 4, .inl (gA (fun _ => 0)))), (tw_10, .inl (cI, 8, .inl (gA (fun _ => 0)))), (stt_10, .inl (cI, 4, .inl (gA (fun _ => 0)))), (chd_10, .inl (cI, 4, .inl (gA (fun _ => 0)))), (spr_10, .inl (cI, 4, .inl (gA (fun _ => 0)))), (q_11, .inr (5, [.ref ci_12, .ref tu_12, .int (nI 0), .int (nI 0)])), (ci_12, .inr (0, [.ref sc_12, .ref mv_12, .int (nI 0)])), (sc_12, .inl (cI, 60, .inl (gA (fun _ => 0)))), (mv_12, .inl (cI, 4, .inl (gA (fun _ => 0)))), (tu_12, .inl (cI, 4, .inl (gA (fun _ => 0)))), (q_13, .inr (3, [.ref ce_14, .int (nI 0)])), (ce_14, .inl (cI, 17, .inl (gA (fun _ => 0))))]) hP hD [22] [0, 1, 2, 3, 4, 5, 6, 7, 8, 9, 10, 11, 12, 13, 14, 15, 16, 17, 18, 19, 20, 21] rfl rfl (by decide) (by decide) hk1 hFc ht hB rfl
  clear hk1 hz1 ht hB hvm hPc hDc hFc
  generalize H1 = H at hP hS ⊢
  refine W.widen (k := 23) (n := 454) (by omega) (by omega) ?_
  refine va_putF (own := RX7) (D := (dC, dI)) (ci := 6) (C := RX7) (T := TX7) (N := 8) (v := .ref q_13) hx hb hts (by decide +kernel) tyX7 tyX7_ok nmX7 hown hK hP hD hS 0 rfl rfl 6 (by decide) (hts (.fieldLink RX7 46 "NumeralCipher" "number" "LNumeralCipher$Natural;") (by decide +kernel)) (fun _ h9 => h9) rfl hin9 rfl (tyX7_ok 6 (by decide)) rfl rfl (Nat.le_of_ble_eq_true rfl) dX7_init_78 (fun H locs hP hD hS => ?_)
  have hP : va_P (dC, dI) vwCl [(o, .inr (6, [.ref q_1, .ref q_3, .ref q_5, .ref q_7, .ref q_9, .ref q_11, .ref q_13, .null])), (q_1, .inr (1, [.ref ce_2, .int (nI 0)])), (ce_2, .inl (cI, 64, .inl (gA (fun _ => 0)))), (q_3, .inr (1, [.ref ce_4, .int (nI 0)])), (ce_4, .inl (cI, 64, .inl (gA (fun _ => 0)))), (q_5, .inr (1, [.ref ce_6, .int (nI 0)])), (ce_6, .inl (cI, 64, .inl (gA (fun _ => 0)))), (q_7, .inr (4, [.ref ce_8, .int (nI 0), .int (nI 10)])), (ce_8, .inl (cI, 64, .inl (gA (fun _ => 0)))), (q_9, .inr (2, [.ref ci_10, .ref tw_10, .ref stt_10, .ref chd_10, .ref spr_10, .int (nI 0), .int (nI 0), .int (nI 0)])), (ci_10, .inr (0, [.ref sc_10, .ref mv_10, .int (nI 0)])), (sc_10, .inl (cI, 60, .inl (gA (fun _ => 0)))), (mv_10, .inl (cI, 4, .inl (gA (fun _ => 0)))), (tw_10, .inl (cI, 8, .inl (gA (fun _ => 0)))), (stt_10, .inl (cI, 4, .inl (gA (fun _ => 0)))), (chd_10, .inl (cI, 4, .inl (gA (fun _ => 0)))), (spr_10, .inl (cI, 4, .inl (gA (fun _ => 0)))), (q_11, .inr (5, [.ref ci_12, .ref tu_12, .int (nI 0), .int (nI 0)])), (ci_12, .inr (0, [.ref sc_12, .ref mv_12, .int (nI 0)])), (sc_12, .inl (cI, 60, .inl (gA (fun _ => 0)))), (mv_12, .inl (cI, 4, .inl (gA (fun _ => 0)))), (tu_12, .inl (cI, 4, .inl (gA (fun _ => 0)))), (q_13, .inr (3, [.ref ce_14, .int (nI 0)])), (ce_14, .inl (cI, 17, .inl (gA (fun _ => 0))))] H := hP
  have hD : va_D A [(o, .inr (6, [.ref q_1, .ref q_3, .ref q_5, .ref q_7, .ref q_9, .ref q_11, .ref q_13, .null])), (q_1, .inr (1, [.ref ce_2, .int (nI 0)])), (ce_2, .inl (cI, 64, .inl (gA (fun _ => 0)))), (q_3, .inr (1, [.ref ce_4, .int (nI 0)])), (ce_4, .inl (cI, 64, .inl (gA (fun _ => 0)))), (q_5, .inr (1, [.ref ce_6, .int (nI 0)])), (ce_6, .inl (cI, 64, .inl (gA (fun _ => 0)))), (q_7, .inr (4, [.ref ce_8, .int (nI 0), .int (nI 10)])), (ce_8, .inl (cI, 64, .inl (gA (fun _ => 0)))), (q_9, .inr (2, [.ref ci_10, .ref tw_10, .ref stt_10, .ref chd_10, .ref spr_10, .int (nI 0), .int (nI 0), .int (nI 0)])), (ci_10, .inr (0, [.ref sc_10, .ref mv_10, .int (nI 0)])), (sc_10, .inl (cI, 60, .inl (gA (fun _ => 0)))), (mv_10, .inl (cI, 4, .inl (gA (fun _ => 0)))), (tw_10, .inl (cI, 8, .inl (gA (fun _ => 0)))), (stt_10, .inl (cI, 4, .inl (gA (fun _ => 0)))), (chd_10, .inl (cI, 4, .inl (gA (fun _ => 0)))), (spr_10, .inl (cI, 4, .inl (gA (fun _ => 0)))), (q_11, .inr (5, [.ref ci_12, .ref tu_12, .int (nI 0), .int (nI 0)])), (ci_12, .inr (0, [.ref sc_12, .ref mv_12, .int (nI 0)])), (sc_12, .inl (cI, 60, .inl (gA (fun _ => 0)))), (mv_12, .inl (cI, 4, .inl (gA (fun _ => 0)))), (tu_12, .inl (cI, 4, .inl (gA (fun _ => 0)))), (q_13, .inr (3, [.ref ce_14, .int (nI 0)])), (ce_14, .inl (cI, 17, .inl (gA (fun _ => 0))))] := hD
  refine lv_aload_n hx hb dX7_init_81 rfl (lv_at hl 0 rfl) ?_
  refine lv_iconst (v := nI 4) hx hb dX7_init_82 (by decide) ?_
  refine gv_newi hx hb (hts (.arrayClass .int) (by decide +kernel)) hK hP hD hS hA (by decide) (Nat.le_of_ble_eq_true rfl) (Nat.le_of_ble_eq_true rfl) dX7_init_83 (fun q_15 H hP hD hS => ?_)
  have hP : va_P (dC, dI) vwCl [(o, .inr (6, [.ref q_1, .ref q_3, .ref q_5, .ref q_7, .ref q_9, .ref q_11, .ref q_13, .null])), (q_1, .inr (1, [.ref ce_2, .int (nI 0)])), (ce_2, .inl (cI, 64, .inl (gA (fun _ => 0)))), (q_3, .inr (1, [.ref ce_4, .int (nI 0)])), (ce_4, .inl (cI, 64, .inl (gA (fun _ => 0)))), (q_5, .inr (1, [.ref ce_6, .int (nI 0)])), (ce_6, .inl (cI, 64, .inl (gA (fun _ => 0)))), (q_7, .inr (4, [.ref ce_8, .int (nI 0), .int (nI 10)])), (ce_8, .inl (cI, 64, .inl (gA (fun _ => 0)))), (q_9, .inr (2, [.ref ci_10, .ref tw_10, .ref stt_10, .ref chd_10, .ref spr_10, .int (nI 0), .int (nI 0), .int (nI 0)])), (ci_10, .inr (0, [.ref sc_10, .ref mv_10, .int (nI 0)])), (sc_10, .inl (cI, 60, .inl (gA (fun _ => 0)))), (mv_10, .inl (cI, 4, .inl (gA (fun _ => 0)))), (tw_10, .inl (cI, 8, .inl (gA (fun _ => 0)))), (stt_10, .inl (cI, 4, .inl (gA (fun _ => 0)))), (chd_10, .inl (cI, 4, .inl (gA (fun _ => 0)))), (spr_10, .inl (cI, 4, .inl (gA (fun _ => 0)))), (q_11, .inr (5, [.ref ci_12, .ref tu_12, .int (nI 0), .int (nI 0)])), (ci_12, .inr (0, [.ref sc_12, .ref mv_12, .int (nI 0)])), (sc_12, .inl (cI, 60, .inl (gA (fun _ => 0)))), (mv_12, .inl (cI, 4, .inl (gA (fun _ => 0)))), (tu_12, .inl (cI, 4, .inl (gA (fun _ => 0)))), (q_13, .inr (3, [.ref ce_14, .int (nI 0)])), (ce_14, .inl (cI, 17, .inl (gA (fun _ => 0)))), (q_15, .inl (cI, 4, .inl (gA (fun _ => 0))))] H := hP
  have hD : va_D A [(o, .inr (6, [.ref q_1, .ref q_3, .ref q_5, .ref q_7, .ref q_9, .ref q_11, .ref q_13, .null])), (q_1, .inr (1, [.ref ce_2, .int (nI 0)])), (ce_2, .inl (cI, 64, .inl (gA (fun _ => 0)))), (q_3, .inr (1, [.ref ce_4, .int (nI 0)])), (ce_4, .inl (cI, 64, .inl (gA (fun _ => 0)))), (q_5, .inr (1, [.ref ce_6, .int (nI 0)])), (ce_6, .inl (cI, 64, .inl (gA (fun _ => 0)))), (q_7, .inr (4, [.ref ce_8, .int (nI 0), .int (nI 10)])), (ce_8, .inl (cI, 64, .inl (gA (fun _ => 0)))), (q_9, .inr (2, [.ref ci_10, .ref tw_10, .ref stt_10, .ref chd_10, .ref spr_10, .int (nI 0), .int (nI 0), .int (nI 0)])), (ci_10, .inr (0, [.ref sc_10, .ref mv_10, .int (nI 0)])), (sc_10, .inl (cI, 60, .inl (gA (fun _ => 0)))), (mv_10, .inl (cI, 4, .inl (gA (fun _ => 0)))), (tw_10, .inl (cI, 8, .inl (gA (fun _ => 0)))), (stt_10, .inl (cI, 4, .inl (gA (fun _ => 0)))), (chd_10, .inl (cI, 4, .inl (gA (fun _ => 0)))), (spr_10, .inl (cI, 4, .inl (gA (fun _ => 0)))), (q_11, .inr (5, [.ref ci_12, .ref tu_12, .int (nI 0), .int (nI 0)])), (ci_12, .inr (0, [.ref sc_12, .ref mv_12, .int (nI 0)])), (sc_12, .inl (cI, 60, .inl (gA (fun _ => 0)))), (mv_12, .inl (cI, 4, .inl (gA (fun _ => 0)))), (tu_12, .inl (cI, 4, .inl (gA (fun _ => 0)))), (q_13, .inr (3, [.ref ce_14, .int (nI 0)])), (ce_14, .inl (cI, 17, .inl (gA (fun _ => 0)))), (q_15, .inl (cI, 4, .inl (gA (fun _ => 0))))] := hD
  refine W.widen (k := 24) (n := 458) (by omega) (by omega) ?_
  refine va_putF (own := RX7) (D := (dC, dI)) (ci := 6) (C := RX7) (T := TX7) (N := 8) (v := .ref q_15) hx hb hts (by decide +kernel) tyX7 tyX7_ok nmX7 hown hK hP hD hS 0 rfl rfl 7 (by decide) (hts (.fieldLink RX7 50 "NumeralCipher" "words" "[I") (by decide +kernel)) (fun _ h9 => h9) rfl hin9 rfl (tyX7_ok 7 (by decide)) rfl rfl (Nat.le_of_ble_eq_true rfl) dX7_init_85 (fun H locs hP hD hS => ?_)
  have hP : va_P (dC, dI) vwCl [(o, .inr (6, [.ref q_1, .ref q_3, .ref q_5, .ref q_7, .ref q_9, .ref q_11, .ref q_13, .ref q_15])), (q_1, .inr (1, [.ref ce_2, .int (nI 0)])), (ce_2, .inl (cI, 64, .inl (gA (fun _ => 0)))), (q_3, .inr (1, [.ref ce_4, .int (nI 0)])), (ce_4, .inl (cI, 64, .inl (gA (fun _ => 0)))), (q_5, .inr (1, [.ref ce_6, .int (nI 0)])), (ce_6, .inl (cI, 64, .inl (gA (fun _ => 0)))), (q_7, .inr (4, [.ref ce_8, .int (nI 0), .int (nI 10)])), (ce_8, .inl (cI, 64, .inl (gA (fun _ => 0)))), (q_9, .inr (2, [.ref ci_10, .ref tw_10, .ref stt_10, .ref chd_10, .ref spr_10, .int (nI 0), .int (nI 0), .int (nI 0)])), (ci_10, .inr (0, [.ref sc_10, .ref mv_10, .int (nI 0)])), (sc_10, .inl (cI, 60, .inl (gA (fun _ => 0)))), (mv_10, .inl (cI, 4, .inl (gA (fun _ => 0)))), (tw_10, .inl (cI, 8, .inl (gA (fun _ => 0)))), (stt_10, .inl (cI, 4, .inl (gA (fun _ => 0)))), (chd_10, .inl (cI, 4, .inl (gA (fun _ => 0)))), (spr_10, .inl (cI, 4, .inl (gA (fun _ => 0)))), (q_11, .inr (5, [.ref ci_12, .ref tu_12, .int (nI 0), .int (nI 0)])), (ci_12, .inr (0, [.ref sc_12, .ref mv_12, .int (nI 0)])), (sc_12, .inl (cI, 60, .inl (gA (fun _ => 0)))), (mv_12, .inl (cI, 4, .inl (gA (fun _ => 0)))), (tu_12, .inl (cI, 4, .inl (gA (fun _ => 0)))), (q_13, .inr (3, [.ref ce_14, .int (nI 0)])), (ce_14, .inl (cI, 17, .inl (gA (fun _ => 0)))), (q_15, .inl (cI, 4, .inl (gA (fun _ => 0))))] H := hP
  have hD : va_D A [(o, .inr (6, [.ref q_1, .ref q_3, .ref q_5, .ref q_7, .ref q_9, .ref q_11, .ref q_13, .ref q_15])), (q_1, .inr (1, [.ref ce_2, .int (nI 0)])), (ce_2, .inl (cI, 64, .inl (gA (fun _ => 0)))), (q_3, .inr (1, [.ref ce_4, .int (nI 0)])), (ce_4, .inl (cI, 64, .inl (gA (fun _ => 0)))), (q_5, .inr (1, [.ref ce_6, .int (nI 0)])), (ce_6, .inl (cI, 64, .inl (gA (fun _ => 0)))), (q_7, .inr (4, [.ref ce_8, .int (nI 0), .int (nI 10)])), (ce_8, .inl (cI, 64, .inl (gA (fun _ => 0)))), (q_9, .inr (2, [.ref ci_10, .ref tw_10, .ref stt_10, .ref chd_10, .ref spr_10, .int (nI 0), .int (nI 0), .int (nI 0)])), (ci_10, .inr (0, [.ref sc_10, .ref mv_10, .int (nI 0)])), (sc_10, .inl (cI, 60, .inl (gA (fun _ => 0)))), (mv_10, .inl (cI, 4, .inl (gA (fun _ => 0)))), (tw_10, .inl (cI, 8, .inl (gA (fun _ => 0)))), (stt_10, .inl (cI, 4, .inl (gA (fun _ => 0)))), (chd_10, .inl (cI, 4, .inl (gA (fun _ => 0)))), (spr_10, .inl (cI, 4, .inl (gA (fun _ => 0)))), (q_11, .inr (5, [.ref ci_12, .ref tu_12, .int (nI 0), .int (nI 0)])), (ci_12, .inr (0, [.ref sc_12, .ref mv_12, .int (nI 0)])), (sc_12, .inl (cI, 60, .inl (gA (fun _ => 0)))), (mv_12, .inl (cI, 4, .inl (gA (fun _ => 0)))), (tu_12, .inl (cI, 4, .inl (gA (fun _ => 0)))), (q_13, .inr (3, [.ref ce_14, .int (nI 0)])), (ce_14, .inl (cI, 17, .inl (gA (fun _ => 0)))), (q_15, .inl (cI, 4, .inl (gA (fun _ => 0))))] := hD
  refine lv_aload_n hx hb dX7_init_88 rfl (lv_at hl 0 rfl) ?_
  refine gv_get (own := RX7) (D := (dC, dI)) (ci := 6) (C := RX7) (T := TX7) (N := 8) (v := .ref q_3) hx hb hts (by decide +kernel) hown hK hP 0 rfl rfl 1 (by decide) (hts (.fieldLink RX7 16 "NumeralCipher" "keyBytes" "LNumeralCipher$Bytes;") (by decide +kernel)) rfl rfl dX7_init_89 ?_
  refine lv_bipush (v := nI 16) hx hb dX7_init_92 (by decide) ?_
  refine gv_putN (own := RX7) (D := (dC, dI)) (ci := 1) (C := RX1) (T := TX1) (N := 2) (ws' := [(o, .inr (6, [.ref q_1, .ref q_3, .ref q_5, .ref q_7, .ref q_9, .ref q_11, .ref q_13, .ref q_15])), (q_1, .inr (1, [.ref ce_2, .int (nI 0)])), (ce_2, .inl (cI, 64, .inl (gA (fun _ => 0)))), (q_3, .inr (1, [.ref ce_4, .int (nI 16)])), (ce_4, .inl (cI, 64, .inl (gA (fun _ => 0)))), (q_5, .inr (1, [.ref ce_6, .int (nI 0)])), (ce_6, .inl (cI, 64, .inl (gA (fun _ => 0)))), (q_7, .inr (4, [.ref ce_8, .int (nI 0), .int (nI 10)])), (ce_8, .inl (cI, 64, .inl (gA (fun _ => 0)))), (q_9, .inr (2, [.ref ci_10, .ref tw_10, .ref stt_10, .ref chd_10, .ref spr_10, .int (nI 0), .int (nI 0), .int (nI 0)])), (ci_10, .inr (0, [.ref sc_10, .ref mv_10, .int (nI 0)])), (sc_10, .inl (cI, 60, .inl (gA (fun _ => 0)))), (mv_10, .inl (cI, 4, .inl (gA (fun _ => 0)))), (tw_10, .inl (cI, 8, .inl (gA (fun _ => 0)))), (stt_10, .inl (cI, 4, .inl (gA (fun _ => 0)))), (chd_10, .inl (cI, 4, .inl (gA (fun _ => 0)))), (spr_10, .inl (cI, 4, .inl (gA (fun _ => 0)))), (q_11, .inr (5, [.ref ci_12, .ref tu_12, .int (nI 0), .int (nI 0)])), (ci_12, .inr (0, [.ref sc_12, .ref mv_12, .int (nI 0)])), (sc_12, .inl (cI, 60, .inl (gA (fun _ => 0)))), (mv_12, .inl (cI, 4, .inl (gA (fun _ => 0)))), (tu_12, .inl (cI, 4, .inl (gA (fun _ => 0)))), (q_13, .inr (3, [.ref ce_14, .int (nI 0)])), (ce_14, .inl (cI, 17, .inl (gA (fun _ => 0)))), (q_15, .inl (cI, 4, .inl (gA (fun _ => 0))))]) hx hb hts (by decide +kernel) tyX1 tyX1_ok nmX1 hown hK hP hD hS 3 rfl rfl 1 (by decide) (hE.nest (.fieldLinkNest "NumeralCipher" 54 "NumeralCipher$Bytes" "size" "I" "NumeralCipher") (by decide +kernel)) rfl rfl (by decide +kernel) (Nat.le_of_ble_eq_true rfl) rfl dX7_init_94 (fun H locs hP hD hS => ?_)
  refine lv_aload_n hx hb dX7_init_97 rfl (lv_at hl 0 rfl) ?_
  have hPc := hP.sub (ws' := [(o, .inr (6, [.ref q_1, .ref q_3, .ref q_5, .ref q_7, .ref q_9, .ref q_11, .ref q_13, .ref q_15])), (q_3, .inr (1, [.ref ce_4, .int (nI 16)])), (ce_4, .inl (cI, 64, .inl (gA (fun _ => 0)))), (q_9, .inr (2, [.ref ci_10, .ref tw_10, .ref stt_10, .ref chd_10, .ref spr_10, .int (nI 0), .int (nI 0), .int (nI 0)])), (ci_10, .inr (0, [.ref sc_10, .ref mv_10, .int (nI 0)])), (sc_10, .inl (cI, 60, .inl (gA (fun _ => 0)))), (q_11, .inr (5, [.ref ci_12, .ref tu_12, .int (nI 0), .int (nI 0)])), (ci_12, .inr (0, [.ref sc_12, .ref mv_12, .int (nI 0)])), (sc_12, .inl (cI, 60, .inl (gA (fun _ => 0))))]) [0, 3, 4, 9, 10, 11, 17, 18, 19] rfl
  have hDc := hD.sub (ws' := [(o, .inr (6, [.ref q_1, .ref q_3, .ref q_5, .ref q_7, .ref q_9, .ref q_11, .ref q_13, .ref q_15])), (q_3, .inr (1, [.ref ce_4, .int (nI 16)])), (ce_4, .inl (cI, 64, .inl (gA (fun _ => 0)))), (q_9, .inr (2, [.ref ci_10, .ref tw_10, .ref stt_10, .ref chd_10, .ref spr_10, .int (nI 0), .int (nI 0), .int (nI 0)])), (ci_10, .inr (0, [.ref sc_10, .ref mv_10, .int (nI 0)])), (sc_10, .inl (cI, 60, .inl (gA (fun _ => 0)))), (q_11, .inr (5, [.ref ci_12, .ref tu_12, .int (nI 0), .int (nI 0)])), (ci_12, .inr (0, [.ref sc_12, .ref mv_12, .int (nI 0)])), (sc_12, .inl (cI, 60, .inl (gA (fun _ => 0))))]) [0, 3, 4, 9, 10, 11, 17, 18, 19] (by decide) rfl
  have hFc := va_free (wc := [(o, .inr (6, [.ref q_1, .ref q_3, .ref q_5, .ref q_7, .ref q_9, .ref q_11, .ref q_13, .ref q_15])), (q_3, .inr (1, [.ref ce_4, .int (nI 16)])), (ce_4, .inl (cI, 64, .inl (gA (fun _ => 0)))), (q_9, .inr (2, [.ref ci_10, .ref tw_10, .ref stt_10, .ref chd_10, .ref spr_10, .int (nI 0), .int (nI 0), .int (nI 0)])), (ci_10, .inr (0, [.ref sc_10, .ref mv_10, .int (nI 0)])), (sc_10, .inl (cI, 60, .inl (gA (fun _ => 0)))), (q_11, .inr (5, [.ref ci_12, .ref tu_12, .int (nI 0), .int (nI 0)])), (ci_12, .inr (0, [.ref sc_12, .ref mv_12, .int (nI 0)])), (sc_12, .inl (cI, 60, .inl (gA (fun _ => 0))))]) hD hS hA [0, 3, 4, 9, 10, 11, 17, 18, 19] rfl
  refine va_callv (va_runV (As := []) (rest := []) ⟨hx, hb, hml, hown, hts⟩ (c_X7_expandKey l dC dI cI tS H.size o q_1 q_3 q_5 q_7 q_9 q_11 q_13 q_15 ce_4 ci_10 tw_10 stt_10 chd_10 spr_10 sc_10 mv_10 ci_12 tu_12 sc_12 mv_12 16 0 0 0 0 0 0 0 (fun _ => 0) (fun _ => 0) (fun _ => 0) (Or.inl rfl) (fun _ _ => (by decide : (0 : Nat) < 256))) (cwV 0 hts gX7_init_X7_expandKey rfl rfl rfl (by decide +kernel) ⟨Nat.le_of_ble_eq_true rfl, Nat.le_of_ble_eq_true rfl⟩) ⟨gPe_blind, va_recv hK hPc (ci := 6) (q0 := 0) rfl rfl, gPe_pre hPc hK hDc (hE.at hS) hFc⟩ rfl rfl hl.1 rfl (lv_room (Nat.le_of_ble_eq_true rfl)) dX7_init_98 ⟨Nat.le_of_ble_eq_true rfl, Nat.le_of_ble_eq_true rfl⟩) hS (fun q _ h => hFc q h) hFc (fun u8 t8 H1 locs ht hvm hw hB hz1 hk1 hS => ?_)
  obtain ⟨w8_16, w9_16⟩ := u8
  try dsimp only at hw hB
  obtain ⟨hP, hD⟩ := gB_join (wr := [(q_1, .inr (1, [.ref ce_2, .int (nI 0)])), (ce_2, .inl (cI, 64, .inl (gA (fun _ => 0)))), (q_5, .inr (1, [.ref ce_6, .int (nI 0)])), (ce_6, .inl (cI, 64, .inl (gA (fun _ => 0)))), (q_7, .inr (4, [.ref ce_8, .int (nI 0), .int (nI 10)])), (ce_8, .inl (cI, 64, .inl (gA (fun _ => 0)))), (mv_10, .inl (cI, 4, .inl (gA (fun _ => 0)))), (tw_10, .inl (cI, 8, .inl (gA (fun _ => 0)))), (stt_10, .inl (cI, 4, .inl (gA (fun _ => 0)))), (chd_10, .inl (cI, 4, .inl (gA (fun _ => 0)))), (spr_10, .inl (cI, 4, .inl (gA (fun _ => 0)))), (mv_12, .inl (cI, 4, .inl (gA (fun _ => 0)))), (tu_12, .inl (cI, 4, .inl (gA (fun _ => 0)))), (q_13, .inr (3, [.ref ce_14, .int (nI 0)])), (ce_14, .inl (cI, 17, .inl (gA (fun _ => 0)))), (q_15, .inl (cI, 4, .inl (gA (fun _ => 0))))]) (w2 := [(q_1, .inr (1, [.ref ce_2, .int (nI 0)])), (ce_2, .inl (cI, 64, .inl (gA (fun _ => 0)))), (q_5, .inr (1, [.ref ce_6, .int (nI 0)])), (ce_6, .inl (cI, 64, .inl (gA (fun _ => 0)))), (q_7, .inr (4, [.ref ce_8, .int (nI 0), .int (nI 10)])), (ce_8, .inl (cI, 64, .inl (gA (fun _ => 0)))), (mv_10, .inl (cI, 4, .inl (gA (fun _ => 0)))), (tw_10, .inl (cI, 8, .inl (gA (fun _ => 0)))), (stt_10, .inl (cI, 4, .inl (gA (fun _ => 0)))), (chd_10, .inl (cI, 4, .inl (gA (fun _ => 0)))), (spr_10, .inl (cI, 4, .inl (gA (fun _ => 0)))), (mv_12, .inl (cI, 4, .inl (gA (fun _ => 0)))), (tu_12, .inl (cI, 4, .inl (gA (fun _ => 0)))), (q_13, .inr (3, [.ref ce_14, .int (nI 0)])), (ce_14, .inl (cI, 17, .inl (gA (fun _ => 0)))), (q_15, .inl (cI, 4, .inl (gA (fun _ => 0)))), (o, .inr (6, [.ref q_1, .ref q_3, .ref q_5, .ref q_7, .ref q_9, .ref q_11, .ref q_13, .ref q_15])), (q_3, .inr (1, [.ref ce_4, .int (nI 16)])), (ce_4, .inl (cI, 64, .inl (gA (fun _ => 0)))), (q_9, .inr (2, [.ref ci_10, .ref tw_10, .ref stt_10, .ref chd_10, .ref spr_10, .int (nI 0), .int (nI 0), .int (nI 0)])), (ci_10, .inr (0, [.ref sc_10, .ref mv_10, .int (nI (16 / 4 + 6))])), (sc_10, .inl (cI, 60, .inl (gA w8_16))), (q_11, .inr (5, [.ref ci_12, .ref tu_12, .int (nI 0), .int (nI 0)])), (ci_12, .inr (0, [.ref sc_12, .ref mv_12, .int (nI (16 / 4 + 6))])), (sc_12, .inl (cI, 60, .inl (gA w9_16)))]) hP hD [0, 3, 4, 9, 10, 11, 17, 18, 19] [1, 2, 5, 6, 7, 8, 12, 13, 14, 15, 16, 20, 21, 22, 23, 24] rfl rfl (by decide) (by decide) hk1 hFc ht hB rfl
  clear hk1 hz1 ht hB hvm hPc hDc hFc
  generalize H1 = H at hP hS ⊢
  obtain ⟨hk1, hk2⟩ := hw
  exact W.vret hx hb hr (fun t ht hW => ⟨⟨(q_1, ce_2, q_3, ce_4, q_5, ce_6, q_7, ce_8, q_9, ci_10, sc_10, mv_10, tw_10, stt_10, chd_10, spr_10, q_11, ci_12, sc_12, mv_12, tu_12, q_13, ce_14, q_15, w8_16, w9_16), rfl, ⟨hk1, hk2⟩, gB_end ht hW (hP.sub [16, 0, 1, 17, 18, 2, 3, 4, 5, 19, 20, 21, 6, 7, 8, 9, 10, 22, 23, 24, 11, 12, 13, 14, 15] rfl) hK (hD.sub [16, 0, 1, 17, 18, 2, 3, 4, 5, 19, 20, 21, 6, 7, 8, 9, 10, 22, 23, 24, 11, 12, 13, 14, 15] (by decide) rfl)⟩, hS.F ht⟩) hS.2.2 dX7_init_101
