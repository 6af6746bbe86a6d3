set_option maxHeartbeats 4000000 in
set_option maxRecDepth 100000 in
/-- FirstWay.rounds() -/
theorem c_X2_rounds (l : Launch) (wy : Nat) : Met l yX2_rounds wsX2_rounds ({ frames := 0, cells := 0, slots := 0, locals := 0 }) (va_Pc [.ref wy] (fun _ => True)) (QcRead (nI 10)) 0 0 (fun _ => False) := by
  refine Met.ofW (cc := cX2_rounds) (maxL := 1) (ret := (some .int)) (by decide) rfl ?_
  intro p e s m args below meth c s₁ B9 hml hv
  obtain ⟨rfl, -⟩ := hv
  have hx := B9.exec
  have hb := B9.bytes
  have hr := B9.returns
  have hts := atoms_spec (ws := wsX2_rounds) B9.pre
  have hown : s.vm.findClass RX2 = some m.cls := findClass_of_methodNamed B9.named
  have hlocks := B9.notSynchronized
  have hl := lv_entry ([.ref wy]) (n := 1) (Nat.le_of_ble_eq_true rfl)
  rw [lg_entry_eq]
  generalize (lg_sl ([.ref wy]) ++ List.replicate (1 - (lg_sl ([.ref wy])).length) Slot.unset).toArray = ls at hl ⊢
  have hl : lv_has ls 1 [(0, .ref wy)] := hl
  refine lv_bipush (v := nI 10) hx hb dX2_rounds_0 (by decide) ?_
  exact W.iret (v := (nI 10)) hx hb hr (fun t ht hW => ⟨rfl, ht⟩) (fun q h => by cases h) dX2_rounds_2

set_option maxHeartbeats 4000000 in
set_option maxRecDepth 100000 in
/-- SecondWay.rounds() -/
theorem c_X5_rounds (l : Launch) (wy : Nat) : Met l yX5_rounds wsX5_rounds ({ frames := 0, cells := 0, slots := 0, locals := 0 }) (va_Pc [.ref wy] (fun _ => True)) (QcRead (nI 8)) 0 0 (fun _ => False) := by
  refine Met.ofW (cc := cX5_rounds) (maxL := 1) (ret := (some .int)) (by decide) rfl ?_
  intro p e s m args below meth c s₁ B9 hml hv
  obtain ⟨rfl, -⟩ := hv
  have hx := B9.exec
  have hb := B9.bytes
  have hr := B9.returns
  have hts := atoms_spec (ws := wsX5_rounds) B9.pre
  have hown : s.vm.findClass RX5 = some m.cls := findClass_of_methodNamed B9.named
  have hlocks := B9.notSynchronized
  have hl := lv_entry ([.ref wy]) (n := 1) (Nat.le_of_ble_eq_true rfl)
  rw [lg_entry_eq]
  generalize (lg_sl ([.ref wy]) ++ List.replicate (1 - (lg_sl ([.ref wy])).length) Slot.unset).toArray = ls at hl ⊢
  have hl : lv_has ls 1 [(0, .ref wy)] := hl
  refine lv_bipush (v := nI 8) hx hb dX5_rounds_0 (by decide) ?_
  exact W.iret (v := (nI 8)) hx hb hr (fun t ht hW => ⟨rfl, ht⟩) (fun q h => by cases h) dX5_rounds_2

set_option maxHeartbeats 4000000 in
set_option maxRecDepth 100000 in
/-- FirstWay.firstHalf(n) -/
theorem c_X2_firstHalf (l : Launch) (wy : Nat) (n : Nat) (hn : n < 2147483648) : Met l yX2_firstHalf wsX2_firstHalf ({ frames := 0, cells := 0, slots := 0, locals := 0 }) (va_Pc [.ref wy, .int (nI n)] (fun _ => True)) (QcRead (nI (n / 2))) 0 0 (fun _ => False) := by
  refine Met.ofW (cc := cX2_firstHalf) (maxL := 2) (ret := (some .int)) (by decide) rfl ?_
  intro p e s m args below meth c s₁ B9 hml hv
  obtain ⟨rfl, -⟩ := hv
  have hx := B9.exec
  have hb := B9.bytes
  have hr := B9.returns
  have hts := atoms_spec (ws := wsX2_firstHalf) B9.pre
  have hown : s.vm.findClass RX2 = some m.cls := findClass_of_methodNamed B9.named
  have hlocks := B9.notSynchronized
  have hl := lv_entry ([.ref wy, .int (nI n)]) (n := 2) (Nat.le_of_ble_eq_true rfl)
  rw [lg_entry_eq]
  generalize (lg_sl ([.ref wy, .int (nI n)]) ++ List.replicate (2 - (lg_sl ([.ref wy, .int (nI n)])).length) Slot.unset).toArray = ls at hl ⊢
  have hl : lv_has ls 2 [(0, .ref wy), (1, .int (nI n))] := hl
  refine lv_iload_n hx hb dX2_firstHalf_0 rfl (lv_at hl 1 rfl) ?_
  refine lv_iconst (v := nI 2) hx hb dX2_firstHalf_1 (by decide) ?_
  refine gv_idiv (r := n / 2) hx hb dX2_firstHalf_2 (by omega) (by omega) (by omega) rfl ?_
  exact W.iret (v := (nI (n / 2))) hx hb hr (fun t ht hW => ⟨rfl, ht⟩) (fun q h => by cases h) dX2_firstHalf_3

set_option maxHeartbeats 4000000 in
set_option maxRecDepth 100000 in
/-- SecondWay.firstHalf(n) -/
theorem c_X5_firstHalf (l : Launch) (wy : Nat) (n : Nat) (hn : n < 2147483648) : Met l yX5_firstHalf wsX5_firstHalf ({ frames := 0, cells := 0, slots := 0, locals := 0 }) (va_Pc [.ref wy, .int (nI n)] (fun _ => True)) (QcRead (nI (n - n / 2))) 0 0 (fun _ => False) := by
  refine Met.ofW (cc := cX5_firstHalf) (maxL := 2) (ret := (some .int)) (by decide) rfl ?_
  intro p e s m args below meth c s₁ B9 hml hv
  obtain ⟨rfl, -⟩ := hv
  have hx := B9.exec
  have hb := B9.bytes
  have hr := B9.returns
  have hts := atoms_spec (ws := wsX5_firstHalf) B9.pre
  have hown : s.vm.findClass RX5 = some m.cls := findClass_of_methodNamed B9.named
  have hlocks := B9.notSynchronized
  have hl := lv_entry ([.ref wy, .int (nI n)]) (n := 2) (Nat.le_of_ble_eq_true rfl)
  rw [lg_entry_eq]
  generalize (lg_sl ([.ref wy, .int (nI n)]) ++ List.replicate (2 - (lg_sl ([.ref wy, .int (nI n)])).length) Slot.unset).toArray = ls at hl ⊢
  have hl : lv_has ls 2 [(0, .ref wy), (1, .int (nI n))] := hl
  refine lv_iload_n hx hb dX5_firstHalf_0 rfl (lv_at hl 1 rfl) ?_
  refine lv_iload_n hx hb dX5_firstHalf_1 rfl (lv_at hl 1 rfl) ?_
  refine lv_iconst (v := nI 2) hx hb dX5_firstHalf_2 (by decide) ?_
  refine gv_idiv (r := n / 2) hx hb dX5_firstHalf_3 (by omega) (by omega) (by omega) rfl ?_
  refine gv_isub (r := n - (n / 2)) hx hb dX5_firstHalf_4 (by omega) ?_
  refine gv_top (y := (nI (n - n / 2))) (by congr 1) ?_
  exact W.iret (v := (nI (n - n / 2))) hx hb hr (fun t ht hW => ⟨rfl, ht⟩) (fun q h => by cases h) dX5_firstHalf_5

set_option maxHeartbeats 4000000 in
set_option maxRecDepth 100000 in
/-- FirstWay.lowestFirst() -/
theorem c_X2_lowestFirst (l : Launch) (wy : Nat) : Met l yX2_lowestFirst wsX2_lowestFirst ({ frames := 0, cells := 0, slots := 0, locals := 0 }) (va_Pc [.ref wy] (fun _ => True)) (QcRead (nI 0)) 0 0 (fun _ => False) := by
  refine Met.ofW (cc := cX2_lowestFirst) (maxL := 1) (ret := (some .boolean)) (by decide) rfl ?_
  intro p e s m args below meth c s₁ B9 hml hv
  obtain ⟨rfl, -⟩ := hv
  have hx := B9.exec
  have hb := B9.bytes
  have hr := B9.returns
  have hts := atoms_spec (ws := wsX2_lowestFirst) B9.pre
  have hown : s.vm.findClass RX2 = some m.cls := findClass_of_methodNamed B9.named
  have hlocks := B9.notSynchronized
  have hl := lv_entry ([.ref wy]) (n := 1) (Nat.le_of_ble_eq_true rfl)
  rw [lg_entry_eq]
  generalize (lg_sl ([.ref wy]) ++ List.replicate (1 - (lg_sl ([.ref wy])).length) Slot.unset).toArray = ls at hl ⊢
  have hl : lv_has ls 1 [(0, .ref wy)] := hl
  refine lv_iconst (v := nI 0) hx hb dX2_lowestFirst_0 (by decide) ?_
  exact W.zret (v := (nI 0)) hx hb hr rfl (fun t ht hW => ⟨rfl, ht⟩) (fun q h => by cases h) dX2_lowestFirst_1

set_option maxHeartbeats 4000000 in
set_option maxRecDepth 100000 in
/-- SecondWay.lowestFirst() -/
theorem c_X5_lowestFirst (l : Launch) (wy : Nat) : Met l yX5_lowestFirst wsX5_lowestFirst ({ frames := 0, cells := 0, slots := 0, locals := 0 }) (va_Pc [.ref wy] (fun _ => True)) (QcRead (nI 1)) 0 0 (fun _ => False) := by
  refine Met.ofW (cc := cX5_lowestFirst) (maxL := 1) (ret := (some .boolean)) (by decide) rfl ?_
  intro p e s m args below meth c s₁ B9 hml hv
  obtain ⟨rfl, -⟩ := hv
  have hx := B9.exec
  have hb := B9.bytes
  have hr := B9.returns
  have hts := atoms_spec (ws := wsX5_lowestFirst) B9.pre
  have hown : s.vm.findClass RX5 = some m.cls := findClass_of_methodNamed B9.named
  have hlocks := B9.notSynchronized
  have hl := lv_entry ([.ref wy]) (n := 1) (Nat.le_of_ble_eq_true rfl)
  rw [lg_entry_eq]
  generalize (lg_sl ([.ref wy]) ++ List.replicate (1 - (lg_sl ([.ref wy])).length) Slot.unset).toArray = ls at hl ⊢
  have hl : lv_has ls 1 [(0, .ref wy)] := hl
  refine lv_iconst (v := nI 1) hx hb dX5_lowestFirst_0 (by decide) ?_
  exact W.zret (v := (nI 1)) hx hb hr rfl (fun t ht hW => ⟨rfl, ht⟩) (fun q h => by cases h) dX5_lowestFirst_1

set_option maxHeartbeats 4000000 in
set_option maxRecDepth 100000 in
/-- FirstWay.takes -/
theorem c_X2_takes (l : Launch) (wy : Nat) (ro : Nat) (to : Nat) (na : Nat) : Met l yX2_takes wsX2_takes ({ frames := 0, cells := 0, slots := 0, locals := 0 }) (va_Pc [.ref wy, .ref ro, .ref to, .ref na] (fun _ => True)) (QcRead (nI 1)) 0 0 (fun _ => False) := by
  refine Met.ofW (cc := cX2_takes) (maxL := 4) (ret := (some .boolean)) (by decide) rfl ?_
  intro p e s m args below meth c s₁ B9 hml hv
  obtain ⟨rfl, -⟩ := hv
  have hx := B9.exec
  have hb := B9.bytes
  have hr := B9.returns
  have hts := atoms_spec (ws := wsX2_takes) B9.pre
  have hown : s.vm.findClass RX2 = some m.cls := findClass_of_methodNamed B9.named
  have hlocks := B9.notSynchronized
  have hl := lv_entry ([.ref wy, .ref ro, .ref to, .ref na]) (n := 4) (Nat.le_of_ble_eq_true rfl)
  rw [lg_entry_eq]
  generalize (lg_sl ([.ref wy, .ref ro, .ref to, .ref na]) ++ List.replicate (4 - (lg_sl ([.ref wy, .ref ro, .ref to, .ref na])).length) Slot.unset).toArray = ls at hl ⊢
  have hl : lv_has ls 4 [(0, .ref wy), (1, .ref ro), (2, .ref to), (3, .ref na)] := hl
  refine lv_iconst (v := nI 1) hx hb dX2_takes_0 (by decide) ?_
  exact W.zret (v := (nI 1)) hx hb hr rfl (fun t ht hW => ⟨rfl, ht⟩) (fun q h => by cases h) dX2_takes_1

set_option maxHeartbeats 4000000 in
set_option maxRecDepth 100000 in
/-- FirstWay.begin -/
theorem c_X2_begin (l : Launch) (dC : Nat → ClassId) (dI : Nat → Nat → Nat) (cI : ClassId) (tS : Nat) (sz : Nat) (wy : Nat) (ci : Nat) (tw : Nat) (stt : Nat) (chd : Nat) (spr : Nat) (sc : Nat) (mv : Nat) (ro : Nat) (rc : Nat) (to : Nat) (tc : Nat) (na : Nat) (nc : Nat) (iw0 : Nat) (rp0 : Nat) (aw0 : Nat) (r : Nat) (n : Nat) (bs : Nat) (tn : Nat) (k0 : Nat) (tw0 : Nat → Nat) (st0 : Nat → Nat) (w : Nat → Nat) (v : Nat → Nat) (tb : Nat → Nat) (f0 : Nat → Nat) (Wk : Nat → Nat) (hr1 : 1 ≤ r) (hr2 : r ≤ 14) (hwk : ∀ k, k < 4 * (r + 1) → w k = pkf Wk k) (hW : ∀ j, j < 16 * (r + 1) → Wk j < 256) (hn1 : 2 ≤ n) (hn2 : n ≤ 64) (hb1 : 2 ≤ bs) (hb2 : bs ≤ 65536) (htn : tn ≤ 32) (htb : ∀ j, j < 64 → tb j < 256) : Met l yX2_begin wsX2_begin ({ frames := 4, cells := 0, slots := 0, locals := 93 }) (gPe dC dI cI tS [.ref wy, .ref ro, .ref to, .ref na] [(wy, .inr (2, [.ref ci, .ref tw, .ref stt, .ref chd, .ref spr, .int (nI iw0), .int (nI rp0), .int (nI aw0)])), (tw, .inl (cI, 8, .inl (gA tw0))), (stt, .inl (cI, 4, .inl (gA st0))), (ci, .inr (0, [.ref sc, .ref mv, .int (nI r)])), (sc, .inl (cI, 60, .inl (gA w))), (mv, .inl (cI, 4, .inl (gA v))), (ro, .inr (4, [.ref rc, .int (nI n), .int (nI bs)])), (to, .inr (1, [.ref tc, .int (nI tn)])), (tc, .inl (cI, 64, .inl (gA tb))), (na, .inr (3, [.ref nc, .int (nI k0)])), (nc, .inl (cI, 17, .inl (gA f0)))] sz) (va_Qv (fun u : (Nat → Nat) × (Nat → Nat) × (Nat → Nat) × Nat × (Nat → Nat) => (∀ q, q < 8 → u.1 q = pkf tb q) ∧ (∀ k, k < 4 → u.2.1 k = pkf (enc Wk r (fstB bs (n / 2) n tn)) k)) (fun u t => gB dC dI cI (va_A [(wy, .inr (2, [.ref ci, .ref tw, .ref stt, .ref chd, .ref spr, .int (nI iw0), .int (nI rp0), .int (nI aw0)])), (tw, .inl (cI, 8, .inl (gA tw0))), (stt, .inl (cI, 4, .inl (gA st0))), (ci, .inr (0, [.ref sc, .ref mv, .int (nI r)])), (sc, .inl (cI, 60, .inl (gA w))), (mv, .inl (cI, 4, .inl (gA v))), (ro, .inr (4, [.ref rc, .int (nI n), .int (nI bs)])), (to, .inr (1, [.ref tc, .int (nI tn)])), (tc, .inl (cI, 64, .inl (gA tb))), (na, .inr (3, [.ref nc, .int (nI k0)])), (nc, .inl (cI, 17, .inl (gA f0)))] sz) [(wy, .inr (2, [.ref ci, .ref tw, .ref stt, .ref chd, .ref spr, .int (nI (ff1iw bs n tn)), .int (nI (ff1rp bs n tn)), .int (nI (ff1aw bs n))])), (tw, .inl (cI, 8, .inl (gA u.1))), (stt, .inl (cI, 4, .inl (gA u.2.1))), (ci, .inr (0, [.ref sc, .ref mv, .int (nI r)])), (sc, .inl (cI, 60, .inl (gA w))), (mv, .inl (cI, 4, .inl (gA u.2.2.1))), (ro, .inr (4, [.ref rc, .int (nI n), .int (nI bs)])), (to, .inr (1, [.ref tc, .int (nI tn)])), (tc, .inl (cI, 64, .inl (gA tb))), (na, .inr (3, [.ref nc, .int (nI u.2.2.2.1)])), (nc, .inl (cI, 17, .inl (gA u.2.2.2.2)))] t) (va_A [(wy, .inr (2, [.ref ci, .ref tw, .ref stt, .ref chd, .ref spr, .int (nI iw0), .int (nI rp0), .int (nI aw0)])), (tw, .inl (cI, 8, .inl (gA tw0))), (stt, .inl (cI, 4, .inl (gA st0))), (ci, .inr (0, [.ref sc, .ref mv, .int (nI r)])), (sc, .inl (cI, 60, .inl (gA w))), (mv, .inl (cI, 4, .inl (gA v))), (ro, .inr (4, [.ref rc, .int (nI n), .int (nI bs)])), (to, .inr (1, [.ref tc, .int (nI tn)])), (tc, .inl (cI, 64, .inl (gA tb))), (na, .inr (3, [.ref nc, .int (nI k0)])), (nc, .inl (cI, 17, .inl (gA f0)))] sz)) 0 0 (va_A [(wy, .inr (2, [.ref ci, .ref tw, .ref stt, .ref chd, .ref spr, .int (nI iw0), .int (nI rp0), .int (nI aw0)])), (tw, .inl (cI, 8, .inl (gA tw0))), (stt, .inl (cI, 4, .inl (gA st0))), (ci, .inr (0, [.ref sc, .ref mv, .int (nI r)])), (sc, .inl (cI, 60, .inl (gA w))), (mv, .inl (cI, 4, .inl (gA v))), (ro, .inr (4, [.ref rc, .int (nI n), .int (nI bs)])), (to, .inr (1, [.ref tc, .int (nI tn)])), (tc, .inl (cI, 64, .inl (gA tb))), (na, .inr (3, [.ref nc, .int (nI k0)])), (nc, .inl (cI, 17, .inl (gA f0)))] sz) := by
  refine Met.ofW (cc := cX2_begin) (maxL := 7) (ret := none) (by decide) rfl ?_
  intro p e s m args below meth c s₁ B9 hml hv
  obtain ⟨rfl, hsz, ⟨hP, hK, hD0⟩, hE⟩ := hv
  have hx := B9.exec
  have hb := B9.bytes
  have hr := B9.returns
  have hts := atoms_spec (ws := wsX2_begin) B9.pre
  have hown : s.vm.findClass RX2 = some m.cls := findClass_of_methodNamed B9.named
  have hlocks := B9.notSynchronized
  subst hsz
  have hD := hD0.self (sz := s.heap.size)
  generalize hAe : va_A [(wy, .inr (2, [.ref ci, .ref tw, .ref stt, .ref chd, .ref spr, .int (nI iw0), .int (nI rp0), .int (nI aw0)])), (tw, .inl (cI, 8, .inl (gA tw0))), (stt, .inl (cI, 4, .inl (gA st0))), (ci, .inr (0, [.ref sc, .ref mv, .int (nI r)])), (sc, .inl (cI, 60, .inl (gA w))), (mv, .inl (cI, 4, .inl (gA v))), (ro, .inr (4, [.ref rc, .int (nI n), .int (nI bs)])), (to, .inr (1, [.ref tc, .int (nI tn)])), (tc, .inl (cI, 64, .inl (gA tb))), (na, .inr (3, [.ref nc, .int (nI k0)])), (nc, .inl (cI, 17, .inl (gA f0)))] s.heap.size = A at hD hE ⊢
  have hA : ∀ q : Nat, s.heap.size ≤ q → A q := fun q h => by rw [← hAe]; exact Or.inr h
  have hS : va_S A s.heap s.heap [] := va_S.rf
  have hl := lv_entry ([.ref wy, .ref ro, .ref to, .ref na]) (n := 7) (Nat.le_of_ble_eq_true rfl)
  rw [lg_entry_eq]
  generalize (lg_sl ([.ref wy, .ref ro, .ref to, .ref na]) ++ List.replicate (7 - (lg_sl ([.ref wy, .ref ro, .ref to, .ref na])).length) Slot.unset).toArray = ls at hl ⊢
  have hl : lv_has ls 7 [(0, .ref wy), (1, .ref ro), (2, .ref to), (3, .ref na)] := hl
  refine lv_aload_n hx hb dX2_begin_0 rfl (lv_at hl 0 rfl) ?_
  refine lv_aload_n hx hb dX2_begin_1 rfl (lv_at hl 1 rfl) ?_
  refine gv_getN (own := RX2) (D := (dC, dI)) (ci := 4) (C := RX4) (T := TX4) (N := 3) (v := .int (nI n)) hx hb hts (by decide +kernel) hown hK hP 6 rfl rfl 1 (by decide) (hE.nest (.fieldLinkNest "NumeralCipher$FirstWay" 24 "NumeralCipher$Row" "size" "I" "NumeralCipher") (by decide +kernel)) rfl rfl dX2_begin_2 ?_
  refine gv_callR (W.runV (As := [.int (nI n)]) (rest := []) ⟨hx, hb, hml, hown, hts⟩ (c_X2_firstHalf l wy n (by omega)) (cwV 1 hts gX2_begin_X2_firstHalf rfl rfl rfl (by decide +kernel) ⟨Nat.le_of_ble_eq_true rfl, Nat.le_of_ble_eq_true rfl⟩) ⟨fun a U g mk q => q, va_recv hK hP (ci := 2) (q0 := 0) rfl rfl, fun U hU hW => ⟨rfl, trivial⟩⟩ rfl rfl hl.1 rfl (lv_room (Nat.le_of_ble_eq_true rfl)) dX2_begin_5 ⟨Nat.zero_le _, Nat.zero_le _⟩) ?_
  refine lv_istore (lv' := [(4, .int (nI (n / 2))), (0, .ref wy), (1, .ref ro), (2, .ref to), (3, .ref na)]) hx hb dX2_begin_8 hl (by decide) rfl (fun ls hl => ?_)
  refine lv_aload_n hx hb dX2_begin_10 rfl (lv_at hl 2 rfl) ?_
  refine lv_aload_n hx hb dX2_begin_11 rfl (lv_at hl 2 rfl) ?_
  refine gv_getN (own := RX2) (D := (dC, dI)) (ci := 4) (C := RX4) (T := TX4) (N := 3) (v := .int (nI n)) hx hb hts (by decide +kernel) hown hK hP 6 rfl rfl 1 (by decide) (hE.nest (.fieldLinkNest "NumeralCipher$FirstWay" 24 "NumeralCipher$Row" "size" "I" "NumeralCipher") (by decide +kernel)) rfl rfl dX2_begin_12 ?_
  refine lv_iload hx hb dX2_begin_15 (lv_at hl 0 rfl) ?_
  refine gv_isub (r := n - (n / 2)) hx hb dX2_begin_17 (by omega) ?_
  refine lv_aload_n hx hb dX2_begin_18 rfl (lv_at hl 4 rfl) ?_
  have hPc := hP.sub (ws' := [(ro, .inr (4, [.ref rc, .int (nI n), .int (nI bs)])), (na, .inr (3, [.ref nc, .int (nI k0)])), (nc, .inl (cI, 17, .inl (gA f0)))]) [6, 9, 10] rfl
  have hDc := hD.sub (ws' := [(ro, .inr (4, [.ref rc, .int (nI n), .int (nI bs)])), (na, .inr (3, [.ref nc, .int (nI k0)])), (nc, .inl (cI, 17, .inl (gA f0)))]) [6, 9, 10] (by decide) rfl
  have hFc := va_free (wc := [(ro, .inr (4, [.ref rc, .int (nI n), .int (nI bs)])), (na, .inr (3, [.ref nc, .int (nI k0)])), (nc, .inl (cI, 17, .inl (gA f0)))]) hD hS hA [6, 9, 10] rfl
  refine va_calli (va_runV (As := [.int (nI (n - (n / 2))), .ref na]) (rest := []) ⟨hx, hb, hml, hown, hts⟩ (c_X4_widthOf l dC dI cI s.heap.size ro rc n bs na nc k0 f0 (n - (n / 2)) (by omega) (by omega) (by omega)) (cwV 2 hts gX2_begin_X4_widthOf rfl rfl rfl (by decide +kernel) ⟨Nat.le_of_ble_eq_true rfl, Nat.le_of_ble_eq_true rfl⟩) ⟨gPc_blind, va_recv hK hPc (ci := 4) (q0 := 0) rfl rfl, gPc_pre hPc hK hDc⟩ rfl rfl hl.1 rfl (lv_room (Nat.le_of_ble_eq_true rfl)) dX2_begin_19 ⟨Nat.zero_le _, Nat.zero_le _⟩) hS (fun q _ h => hFc q h) hFc (fun r9 u8 t8 H1 locs ht hvm hw hB hz1 hk1 hS => ?_)
  obtain ⟨f9_1, m9_1⟩ := u8
  try dsimp only at hw hB
  obtain ⟨hP, hD⟩ := gB_join (wr := [(wy, .inr (2, [.ref ci, .ref tw, .ref stt, .ref chd, .ref spr, .int (nI iw0), .int (nI rp0), .int (nI aw0)])), (tw, .inl (cI, 8, .inl (gA tw0))), (stt, .inl (cI, 4, .inl (gA st0))), (ci, .inr (0, [.ref sc, .ref mv, .int (nI r)])), (sc, .inl (cI, 60, .inl (gA w))), (mv, .inl (cI, 4, .inl (gA v))), (to, .inr (1, [.ref tc, .int (nI tn)])), (tc, .inl (cI, 64, .inl (gA tb)))]) (w2 := [(wy, .inr (2, [.ref ci, .ref tw, .ref stt, .ref chd, .ref spr, .int (nI iw0), .int (nI rp0), .int (nI aw0)])), (tw, .inl (cI, 8, .inl (gA tw0))), (stt, .inl (cI, 4, .inl (gA st0))), (ci, .inr (0, [.ref sc, .ref mv, .int (nI r)])), (sc, .inl (cI, 60, .inl (gA w))), (mv, .inl (cI, 4, .inl (gA v))), (to, .inr (1, [.ref tc, .int (nI tn)])), (tc, .inl (cI, 64, .inl (gA tb))), (ro, .inr (4, [.ref rc, .int (nI n), .int (nI bs)])), (na, .inr (3, [.ref nc, .int (nI m9_1)])), (nc, .inl (cI, 17, .inl (gA f9_1)))]) hP hD [6, 9, 10] [0, 1, 2, 3, 4, 5, 7, 8] rfl rfl (by decide) (by decide) hk1 hFc ht hB rfl
  clear hk1 hz1 ht hB hvm hPc hDc hFc
  generalize H1 = H at hP hS ⊢
  obtain ⟨rfl, hokw⟩ := hw
  refine gv_top (y := nI (ff1b bs n)) rfl ?_
  have hWd : ff1b bs n ≤ 64 := bl_64 (by omega) hb2 (by omega)
  refine lv_istore (lv' := [(5, .int (nI (ff1b bs n))), (4, .int (nI (n / 2))), (0, .ref wy), (1, .ref ro), (2, .ref to), (3, .ref na)]) hx hb dX2_begin_22 hl (by decide) rfl (fun ls hl => ?_)
  refine lv_aload_n hx hb dX2_begin_24 rfl (lv_at hl 2 rfl) ?_
  refine lv_iload hx hb dX2_begin_25 (lv_at hl 0 rfl) ?_
  refine lv_iconst (v := nI 3) hx hb dX2_begin_27 (by decide) ?_
  refine gv_iadd (r := (ff1b bs n) + 3) hx hb dX2_begin_28 rfl ?_
  refine lv_iconst (v := nI 4) hx hb dX2_begin_29 (by decide) ?_
  refine gv_idiv (r := ((ff1b bs n) + 3) / 4) hx hb dX2_begin_30 (by omega) (by omega) (by omega) rfl ?_
  refine lv_iconst (v := nI 1) hx hb dX2_begin_31 (by decide) ?_
  refine gv_iadd (r := (((ff1b bs n) + 3) / 4) + 1) hx hb dX2_begin_32 rfl ?_
  refine gv_top (y := nI (ff1aw bs n)) rfl ?_
  refine gv_put (own := RX2) (D := (dC, dI)) (ci := 2) (C := RX2) (T := TX2) (N := 8) (ws' := [(wy, .inr (2, [.ref ci, .ref tw, .ref stt, .ref chd, .ref spr, .int (nI iw0), .int (nI rp0), .int (nI (ff1aw bs n))])), (tw, .inl (cI, 8, .inl (gA tw0))), (stt, .inl (cI, 4, .inl (gA st0))), (ci, .inr (0, [.ref sc, .ref mv, .int (nI r)])), (sc, .inl (cI, 60, .inl (gA w))), (mv, .inl (cI, 4, .inl (gA v))), (to, .inr (1, [.ref tc, .int (nI tn)])), (tc, .inl (cI, 64, .inl (gA tb))), (ro, .inr (4, [.ref rc, .int (nI n), .int (nI bs)])), (na, .inr (3, [.ref nc, .int (nI m9_1)])), (nc, .inl (cI, 17, .inl (gA f9_1)))]) hx hb hts (by decide +kernel) tyX2 tyX2_ok nmX2 hown hK hP hD hS 0 rfl rfl 7 (by decide) (hts (.fieldLink RX2 38 "NumeralCipher$FirstWay" "addendWords" "I") (by decide +kernel)) rfl rfl (by decide +kernel) (Nat.le_of_ble_eq_true rfl) rfl dX2_begin_33 (fun H locs hP hD hS => ?_)
  refine lv_aload_n hx hb dX2_begin_36 rfl (lv_at hl 2 rfl) ?_
  refine lv_aload_n hx hb dX2_begin_37 rfl (lv_at hl 4 rfl) ?_
  refine gv_getN (own := RX2) (D := (dC, dI)) (ci := 1) (C := RX1) (T := TX1) (N := 2) (v := .int (nI tn)) hx hb hts (by decide +kernel) hown hK hP 6 rfl rfl 1 (by decide) (hE.nest (.fieldLinkNest "NumeralCipher$FirstWay" 41 "NumeralCipher$Bytes" "size" "I" "NumeralCipher") (by decide +kernel)) rfl rfl dX2_begin_38 ?_
  refine lv_iconst (v := nI 1) hx hb dX2_begin_41 (by decide) ?_
  refine gv_iadd (r := tn + 1) hx hb dX2_begin_42 rfl ?_
  refine lv_iload hx hb dX2_begin_43 (lv_at hl 0 rfl) ?_
  refine gv_iadd (r := (tn + 1) + (ff1b bs n)) hx hb dX2_begin_45 rfl ?_
  refine lv_bipush (v := nI 16) hx hb dX2_begin_46 (by decide) ?_
  refine gv_iadd (r := ((tn + 1) + (ff1b bs n)) + 16) hx hb dX2_begin_48 rfl ?_
  refine lv_iconst (v := nI 1) hx hb dX2_begin_49 (by decide) ?_
  refine gv_isub (r := (((tn + 1) + (ff1b bs n)) + 16) - 1) hx hb dX2_begin_50 (by omega) ?_
  refine lv_bipush (v := nI 16) hx hb dX2_begin_51 (by decide) ?_
  refine gv_idiv (r := ((((tn + 1) + (ff1b bs n)) + 16) - 1) / 16) hx hb dX2_begin_53 (by omega) (by omega) (by omega) rfl ?_
  refine lv_iconst (v := nI 4) hx hb dX2_begin_54 (by decide) ?_
  refine gv_imul (r := (((((tn + 1) + (ff1b bs n)) + 16) - 1) / 16) * 4) hx hb dX2_begin_55 rfl ?_
  refine gv_top (y := nI (ff1iw bs n tn)) rfl ?_
  have hiw : tn + 1 + ff1b bs n ≤ 4 * ff1iw bs n tn ∧ 4 * ff1iw bs n tn ≤ tn + ff1b bs n + 16 := by unfold ff1iw; omega
  refine gv_put (own := RX2) (D := (dC, dI)) (ci := 2) (C := RX2) (T := TX2) (N := 8) (ws' := [(wy, .inr (2, [.ref ci, .ref tw, .ref stt, .ref chd, .ref spr, .int (nI (ff1iw bs n tn)), .int (nI rp0), .int (nI (ff1aw bs n))])), (tw, .inl (cI, 8, .inl (gA tw0))), (stt, .inl (cI, 4, .inl (gA st0))), (ci, .inr (0, [.ref sc, .ref mv, .int (nI r)])), (sc, .inl (cI, 60, .inl (gA w))), (mv, .inl (cI, 4, .inl (gA v))), (to, .inr (1, [.ref tc, .int (nI tn)])), (tc, .inl (cI, 64, .inl (gA tb))), (ro, .inr (4, [.ref rc, .int (nI n), .int (nI bs)])), (na, .inr (3, [.ref nc, .int (nI m9_1)])), (nc, .inl (cI, 17, .inl (gA f9_1)))]) hx hb hts (by decide +kernel) tyX2 tyX2_ok nmX2 hown hK hP hD hS 0 rfl rfl 5 (by decide) (hts (.fieldLink RX2 44 "NumeralCipher$FirstWay" "inputWords" "I") (by decide +kernel)) rfl rfl (by decide +kernel) (Nat.le_of_ble_eq_true rfl) rfl dX2_begin_56 (fun H locs hP hD hS => ?_)
  refine lv_aload_n hx hb dX2_begin_59 rfl (lv_at hl 2 rfl) ?_
  refine lv_iconst (v := nI 4) hx hb dX2_begin_60 (by decide) ?_
  refine lv_aload_n hx hb dX2_begin_61 rfl (lv_at hl 2 rfl) ?_
  refine gv_get (own := RX2) (D := (dC, dI)) (ci := 2) (C := RX2) (T := TX2) (N := 8) (v := .int (nI (ff1iw bs n tn))) hx hb hts (by decide +kernel) hown hK hP 0 rfl rfl 5 (by decide) (hts (.fieldLink RX2 44 "NumeralCipher$FirstWay" "inputWords" "I") (by decide +kernel)) rfl rfl dX2_begin_62 ?_
  refine gv_imul (r := 4 * (ff1iw bs n tn)) hx hb dX2_begin_65 rfl ?_
  refine lv_iload hx hb dX2_begin_66 (lv_at hl 0 rfl) ?_
  refine gv_isub (r := (4 * (ff1iw bs n tn)) - (ff1b bs n)) hx hb dX2_begin_68 (by omega) ?_
  refine lv_iconst (v := nI 1) hx hb dX2_begin_69 (by decide) ?_
  refine gv_isub (r := ((4 * (ff1iw bs n tn)) - (ff1b bs n)) - 1) hx hb dX2_begin_70 (by omega) ?_
  refine gv_top (y := nI (ff1rp bs n tn)) rfl ?_
  refine gv_put (own := RX2) (D := (dC, dI)) (ci := 2) (C := RX2) (T := TX2) (N := 8) (ws' := [(wy, .inr (2, [.ref ci, .ref tw, .ref stt, .ref chd, .ref spr, .int (nI (ff1iw bs n tn)), .int (nI (ff1rp bs n tn)), .int (nI (ff1aw bs n))])), (tw, .inl (cI, 8, .inl (gA tw0))), (stt, .inl (cI, 4, .inl (gA st0))), (ci, .inr (0, [.ref sc, .ref mv, .int (nI r)])), (sc, .inl (cI, 60, .inl (gA w))), (mv, .inl (cI, 4, .inl (gA v))), (to, .inr (1, [.ref tc, .int (nI tn)])), (tc, .inl (cI, 64, .inl (gA tb))), (ro, .inr (4, [.ref rc, .int (nI n), .int (nI bs)])), (na, .inr (3, [.ref nc, .int (nI m9_1)])), (nc, .inl (cI, 17, .inl (gA f9_1)))]) hx hb hts (by decide +kernel) tyX2 tyX2_ok nmX2 hown hK hP hD hS 0 rfl rfl 6 (by decide) (hts (.fieldLink RX2 47 "NumeralCipher$FirstWay" "roundPlace" "I") (by decide +kernel)) rfl rfl (by decide +kernel) (Nat.le_of_ble_eq_true rfl) rfl dX2_begin_71 (fun H locs hP hD hS => ?_)
  refine lv_iconst (v := nI 0) hx hb dX2_begin_74 (by decide) ?_
  refine lv_istore (lv' := [(6, .int (nI 0)), (5, .int (nI (ff1b bs n))), (4, .int (nI (n / 2))), (0, .ref wy), (1, .ref ro), (2, .ref to), (3, .ref na)]) hx hb dX2_begin_75 hl (by decide) rfl (fun ls hl => ?_)
  refine gw_lab (G := fun R args Q => ∀ (n9_77 : Nat) (i : Nat) (g : Nat → Nat), n9_77 = 8 - i → (i ≤ 8) → (∀ q, q < 8 → g q = if q < i then pkf tb q else tw0 q) → ∀ (H : Heap) (locs : List Loc), va_P (dC, dI) vwCl [(wy, .inr (2, [.ref ci, .ref tw, .ref stt, .ref chd, .ref spr, .int (nI (ff1iw bs n tn)), .int (nI (ff1rp bs n tn)), .int (nI (ff1aw bs n))])), (tw, .inl (cI, 8, .inl (gA g))), (stt, .inl (cI, 4, .inl (gA st0))), (ci, .inr (0, [.ref sc, .ref mv, .int (nI r)])), (sc, .inl (cI, 60, .inl (gA w))), (mv, .inl (cI, 4, .inl (gA v))), (to, .inr (1, [.ref tc, .int (nI tn)])), (tc, .inl (cI, 64, .inl (gA tb))), (ro, .inr (4, [.ref rc, .int (nI n), .int (nI bs)])), (na, .inr (3, [.ref nc, .int (nI m9_1)])), (nc, .inl (cI, 17, .inl (gA f9_1)))] H → va_D A [(wy, .inr (2, [.ref ci, .ref tw, .ref stt, .ref chd, .ref spr, .int (nI (ff1iw bs n tn)), .int (nI (ff1rp bs n tn)), .int (nI (ff1aw bs n))])), (tw, .inl (cI, 8, .inl (gA g))), (stt, .inl (cI, 4, .inl (gA st0))), (ci, .inr (0, [.ref sc, .ref mv, .int (nI r)])), (sc, .inl (cI, 60, .inl (gA w))), (mv, .inl (cI, 4, .inl (gA v))), (to, .inr (1, [.ref tc, .int (nI tn)])), (tc, .inl (cI, 64, .inl (gA tb))), (ro, .inr (4, [.ref rc, .int (nI n), .int (nI bs)])), (na, .inr (3, [.ref nc, .int (nI m9_1)])), (nc, .inl (cI, 17, .inl (gA f9_1)))] → va_S A s.heap H locs → ∀ (ls : Array Slot), lv_has ls 7 [(6, .int (nI i)), (4, .int (nI (n / 2))), (0, .ref wy), (1, .ref ro), (2, .ref to), (3, .ref na)] → W p l e R s m args below meth c H locs 0 0 Q (F0 m 77 ls [])) ?_ (fun L77 => ?_)
  ·
    intro n9_77
    induction n9_77 using Nat.strongRecOn with
    | ind n9_77 ih9_77 =>
      intro i g hmu9_77 hi hg H locs hP hD hS ls hl
      refine lv_iload hx hb dX2_begin_77 (lv_at hl 0 rfl) ?_
      refine lv_bipush (v := nI 8) hx hb dX2_begin_79 (by decide) ?_
      refine gv_icmp_ge (tgt := 103) hx hb dX2_begin_81 (by decide) (by omega) (by omega) (fun c_81 => ?_) (fun c_81 => ?_)
      ·
        have e9 : i = 8 := by omega
        rw [e9] at hg
        have hg := fl_e hg
        refine lv_aload_n hx hb dX2_begin_103 rfl (lv_at hl 2 rfl) ?_
        refine gv_get (own := RX2) (D := (dC, dI)) (ci := 2) (C := RX2) (T := TX2) (N := 8) (v := .ref stt) hx hb hts (by decide +kernel) hown hK hP 0 rfl rfl 2 (by decide) (hts (.fieldLink RX2 15 "NumeralCipher$FirstWay" "start" "[I") (by decide +kernel)) rfl rfl dX2_begin_104 ?_
        refine lv_iconst (v := nI 0) hx hb dX2_begin_107 (by decide) ?_
        refine lv_ldc (own := RX2) (v := (16908544 : Int32)) hx hb hown (hts (.constant RX2 53 (16908544)) (by decide +kernel)) dX2_begin_108 ?_
        refine gv_top (y := nI 16908544) (by decide +kernel) ?_
        refine lv_aload_n hx hb dX2_begin_110 rfl (lv_at hl 3 rfl) ?_
        refine gv_getN (own := RX2) (D := (dC, dI)) (ci := 4) (C := RX4) (T := TX4) (N := 3) (v := .int (nI bs)) hx hb hts (by decide +kernel) hown hK hP 8 rfl rfl 2 (by decide) (hE.nest (.fieldLinkNest "NumeralCipher$FirstWay" 54 "NumeralCipher$Row" "base" "I" "NumeralCipher") (by decide +kernel)) rfl rfl dX2_begin_111 ?_
        refine lv_bipush (v := nI 16) hx hb dX2_begin_114 (by decide) ?_
        refine gv_iushr (r := bs / 65536) hx hb dX2_begin_116 (by omega) (by omega) rfl ?_
        refine gv_ior (r := 16908544 ||| (bs / 65536)) hx hb dX2_begin_117 rfl ?_
        refine gv_top (y := nI (pk 1 2 1 (bs / 65536))) (congrArg nI (fst_w0 hb2)) ?_
        refine gv_iast (ws' := [(wy, .inr (2, [.ref ci, .ref tw, .ref stt, .ref chd, .ref spr, .int (nI (ff1iw bs n tn)), .int (nI (ff1rp bs n tn)), .int (nI (ff1aw bs n))])), (tw, .inl (cI, 8, .inl (gA g))), (stt, .inl (cI, 4, .inl (gA (gU st0 0 (pk 1 2 1 (bs / 65536)))))), (ci, .inr (0, [.ref sc, .ref mv, .int (nI r)])), (sc, .inl (cI, 60, .inl (gA w))), (mv, .inl (cI, 4, .inl (gA v))), (to, .inr (1, [.ref tc, .int (nI tn)])), (tc, .inl (cI, 64, .inl (gA tb))), (ro, .inr (4, [.ref rc, .int (nI n), .int (nI bs)])), (na, .inr (3, [.ref nc, .int (nI m9_1)])), (nc, .inl (cI, 17, .inl (gA f9_1)))]) hx hb hK hP hD hS 2 0 rfl rfl rfl (by omega) (by omega) dX2_begin_118 (fun H locs hP hD hS => ?_)
        refine lv_aload_n hx hb dX2_begin_119 rfl (lv_at hl 2 rfl) ?_
        refine gv_get (own := RX2) (D := (dC, dI)) (ci := 2) (C := RX2) (T := TX2) (N := 8) (v := .ref stt) hx hb hts (by decide +kernel) hown hK hP 0 rfl rfl 2 (by decide) (hts (.fieldLink RX2 15 "NumeralCipher$FirstWay" "start" "[I") (by decide +kernel)) rfl rfl dX2_begin_120 ?_
        refine lv_iconst (v := nI 1) hx hb dX2_begin_123 (by decide) ?_
        refine lv_aload_n hx hb dX2_begin_124 rfl (lv_at hl 3 rfl) ?_
        refine gv_getN (own := RX2) (D := (dC, dI)) (ci := 4) (C := RX4) (T := TX4) (N := 3) (v := .int (nI bs)) hx hb hts (by decide +kernel) hown hK hP 8 rfl rfl 2 (by decide) (hE.nest (.fieldLinkNest "NumeralCipher$FirstWay" 54 "NumeralCipher$Row" "base" "I" "NumeralCipher") (by decide +kernel)) rfl rfl dX2_begin_125 ?_
        refine lv_ldc (own := RX2) (v := (65535 : Int32)) hx hb hown (hts (.constant RX2 57 (65535)) (by decide +kernel)) dX2_begin_128 ?_
        refine gv_top (y := nI 65535) (by decide +kernel) ?_
        refine gv_iand (r := bs &&& 65535) hx hb dX2_begin_130 rfl ?_
        refine lv_bipush (v := nI 16) hx hb dX2_begin_131 (by decide) ?_
        refine gv_ishl (r := (bs &&& 65535) * 65536) hx hb dX2_begin_133 (by omega) rfl ?_
        refine lv_sipush (v := nI 2560) hx hb dX2_begin_134 (by decide) ?_
        refine gv_ior (r := ((bs &&& 65535) * 65536) ||| 2560) hx hb dX2_begin_137 rfl ?_
        refine lv_iload hx hb dX2_begin_138 (lv_at hl 1 rfl) ?_
        refine lv_sipush (v := nI 255) hx hb dX2_begin_140 (by decide) ?_
        refine gv_iand (r := (n / 2) &&& 255) hx hb dX2_begin_143 rfl ?_
        refine gv_ior (r := (((bs &&& 65535) * 65536) ||| 2560) ||| ((n / 2) &&& 255)) hx hb dX2_begin_144 rfl ?_
        refine gv_top (y := nI (pk (bs / 256 % 256) (bs % 256) 10 (n / 2))) (congrArg nI (fst_w1 (by omega))) ?_
        refine gv_iast (ws' := [(wy, .inr (2, [.ref ci, .ref tw, .ref stt, .ref chd, .ref spr, .int (nI (ff1iw bs n tn)), .int (nI (ff1rp bs n tn)), .int (nI (ff1aw bs n))])), (tw, .inl (cI, 8, .inl (gA g))), (stt, .inl (cI, 4, .inl (gA (gU (gU st0 0 (pk 1 2 1 (bs / 65536))) 1 (pk (bs / 256 % 256) (bs % 256) 10 (n / 2)))))), (ci, .inr (0, [.ref sc, .ref mv, .int (nI r)])), (sc, .inl (cI, 60, .inl (gA w))), (mv, .inl (cI, 4, .inl (gA v))), (to, .inr (1, [.ref tc, .int (nI tn)])), (tc, .inl (cI, 64, .inl (gA tb))), (ro, .inr (4, [.ref rc, .int (nI n), .int (nI bs)])), (na, .inr (3, [.ref nc, .int (nI m9_1)])), (nc, .inl (cI, 17, .inl (gA f9_1)))]) hx hb hK hP hD hS 2 0 rfl rfl rfl (by omega) (by omega) dX2_begin_145 (fun H locs hP hD hS => ?_)
        refine lv_aload_n hx hb dX2_begin_146 rfl (lv_at hl 2 rfl) ?_
        refine gv_get (own := RX2) (D := (dC, dI)) (ci := 2) (C := RX2) (T := TX2) (N := 8) (v := .ref stt) hx hb hts (by decide +kernel) hown hK hP 0 rfl rfl 2 (by decide) (hts (.fieldLink RX2 15 "NumeralCipher$FirstWay" "start" "[I") (by decide +kernel)) rfl rfl dX2_begin_147 ?_
        refine lv_iconst (v := nI 2) hx hb dX2_begin_150 (by decide) ?_
        refine lv_aload_n hx hb dX2_begin_151 rfl (lv_at hl 3 rfl) ?_
        refine gv_getN (own := RX2) (D := (dC, dI)) (ci := 4) (C := RX4) (T := TX4) (N := 3) (v := .int (nI n)) hx hb hts (by decide +kernel) hown hK hP 8 rfl rfl 1 (by decide) (hE.nest (.fieldLinkNest "NumeralCipher$FirstWay" 24 "NumeralCipher$Row" "size" "I" "NumeralCipher") (by decide +kernel)) rfl rfl dX2_begin_152 ?_
        refine gv_top (y := nI (pk 0 0 0 n)) (congrArg nI (pkw_e3 n)) ?_
        refine gv_iast (ws' := [(wy, .inr (2, [.ref ci, .ref tw, .ref stt, .ref chd, .ref spr, .int (nI (ff1iw bs n tn)), .int (nI (ff1rp bs n tn)), .int (nI (ff1aw bs n))])), (tw, .inl (cI, 8, .inl (gA g))), (stt, .inl (cI, 4, .inl (gA (gU (gU (gU st0 0 (pk 1 2 1 (bs / 65536))) 1 (pk (bs / 256 % 256) (bs % 256) 10 (n / 2))) 2 (pk 0 0 0 n))))), (ci, .inr (0, [.ref sc, .ref mv, .int (nI r)])), (sc, .inl (cI, 60, .inl (gA w))), (mv, .inl (cI, 4, .inl (gA v))), (to, .inr (1, [.ref tc, .int (nI tn)])), (tc, .inl (cI, 64, .inl (gA tb))), (ro, .inr (4, [.ref rc, .int (nI n), .int (nI bs)])), (na, .inr (3, [.ref nc, .int (nI m9_1)])), (nc, .inl (cI, 17, .inl (gA f9_1)))]) hx hb hK hP hD hS 2 0 rfl rfl rfl (by omega) (by omega) dX2_begin_155 (fun H locs hP hD hS => ?_)
        refine lv_aload_n hx hb dX2_begin_156 rfl (lv_at hl 2 rfl) ?_
        refine gv_get (own := RX2) (D := (dC, dI)) (ci := 2) (C := RX2) (T := TX2) (N := 8) (v := .ref stt) hx hb hts (by decide +kernel) hown hK hP 0 rfl rfl 2 (by decide) (hts (.fieldLink RX2 15 "NumeralCipher$FirstWay" "start" "[I") (by decide +kernel)) rfl rfl dX2_begin_157 ?_
        refine lv_iconst (v := nI 3) hx hb dX2_begin_160 (by decide) ?_
        refine lv_aload_n hx hb dX2_begin_161 rfl (lv_at hl 4 rfl) ?_
        refine gv_getN (own := RX2) (D := (dC, dI)) (ci := 1) (C := RX1) (T := TX1) (N := 2) (v := .int (nI tn)) hx hb hts (by decide +kernel) hown hK hP 6 rfl rfl 1 (by decide) (hE.nest (.fieldLinkNest "NumeralCipher$FirstWay" 41 "NumeralCipher$Bytes" "size" "I" "NumeralCipher") (by decide +kernel)) rfl rfl dX2_begin_162 ?_
        refine gv_top (y := nI (pk 0 0 0 tn)) (congrArg nI (pkw_e3 tn)) ?_
        refine gv_iast (ws' := [(wy, .inr (2, [.ref ci, .ref tw, .ref stt, .ref chd, .ref spr, .int (nI (ff1iw bs n tn)), .int (nI (ff1rp bs n tn)), .int (nI (ff1aw bs n))])), (tw, .inl (cI, 8, .inl (gA g))), (stt, .inl (cI, 4, .inl (gA (gU (gU (gU (gU st0 0 (pk 1 2 1 (bs / 65536))) 1 (pk (bs / 256 % 256) (bs % 256) 10 (n / 2))) 2 (pk 0 0 0 n)) 3 (pk 0 0 0 tn))))), (ci, .inr (0, [.ref sc, .ref mv, .int (nI r)])), (sc, .inl (cI, 60, .inl (gA w))), (mv, .inl (cI, 4, .inl (gA v))), (to, .inr (1, [.ref tc, .int (nI tn)])), (tc, .inl (cI, 64, .inl (gA tb))), (ro, .inr (4, [.ref rc, .int (nI n), .int (nI bs)])), (na, .inr (3, [.ref nc, .int (nI m9_1)])), (nc, .inl (cI, 17, .inl (gA f9_1)))]) hx hb hK hP hD hS 2 0 rfl rfl rfl (by omega) (by omega) dX2_begin_165 (fun H locs hP hD hS => ?_)
        refine lv_aload_n hx hb dX2_begin_166 rfl (lv_at hl 2 rfl) ?_
        refine va_get (own := RX2) (D := (dC, dI)) (ci := 2) (C := RX2) (T := TX2) (N := 8) (v := .ref ci) hx hb hts (by decide +kernel) hown hK hP 0 rfl rfl 0 (by decide) (hts (.fieldLink RX2 58 "NumeralCipher$FirstWay" "cipher" "LNumeralCipher$BlockCipher;") (by decide +kernel)) (fun x9 h9 => u_same (hts (.sameField "NumeralCipher$FirstWay" "NumeralCipher$Way" "cipher" "LNumeralCipher$BlockCipher;") (by decide +kernel)) x9 h9) rfl dX2_begin_167 ?_
        refine lv_aload_n hx hb dX2_begin_170 rfl (lv_at hl 2 rfl) ?_
        refine gv_get (own := RX2) (D := (dC, dI)) (ci := 2) (C := RX2) (T := TX2) (N := 8) (v := .ref stt) hx hb hts (by decide +kernel) hown hK hP 0 rfl rfl 2 (by decide) (hts (.fieldLink RX2 15 "NumeralCipher$FirstWay" "start" "[I") (by decide +kernel)) rfl rfl dX2_begin_171 ?_
        have hst : ∀ k, k < 4 → (gU (gU (gU (gU st0 0 (pk 1 2 1 (bs / 65536))) 1 (pk (bs / 256 % 256) (bs % 256) 10 (n / 2))) 2 (pk 0 0 0 n)) 3 (pk 0 0 0 tn)) k = pkf (fstB bs (n / 2) n tn) k := by intro k hk; rcases (show k = 0 ∨ k = 1 ∨ k = 2 ∨ k = 3 by omega) with q | q | q | q <;> subst q <;> rfl
        have hPc := hP.sub (ws' := [(ci, .inr (0, [.ref sc, .ref mv, .int (nI r)])), (sc, .inl (cI, 60, .inl (gA w))), (mv, .inl (cI, 4, .inl (gA v))), (stt, .inl (cI, 4, .inl (gA (gU (gU (gU (gU st0 0 (pk 1 2 1 (bs / 65536))) 1 (pk (bs / 256 % 256) (bs % 256) 10 (n / 2))) 2 (pk 0 0 0 n)) 3 (pk 0 0 0 tn)))))]) [3, 4, 5, 2] rfl
        have hDc := hD.sub (ws' := [(ci, .inr (0, [.ref sc, .ref mv, .int (nI r)])), (sc, .inl (cI, 60, .inl (gA w))), (mv, .inl (cI, 4, .inl (gA v))), (stt, .inl (cI, 4, .inl (gA (gU (gU (gU (gU st0 0 (pk 1 2 1 (bs / 65536))) 1 (pk (bs / 256 % 256) (bs % 256) 10 (n / 2))) 2 (pk 0 0 0 n)) 3 (pk 0 0 0 tn)))))]) [3, 4, 5, 2] (by decide) rfl
        have hFc := va_free (wc := [(ci, .inr (0, [.ref sc, .ref mv, .int (nI r)])), (sc, .inl (cI, 60, .inl (gA w))), (mv, .inl (cI, 4, .inl (gA v))), (stt, .inl (cI, 4, .inl (gA (gU (gU (gU (gU st0 0 (pk 1 2 1 (bs / 65536))) 1 (pk (bs / 256 % 256) (bs % 256) 10 (n / 2))) 2 (pk 0 0 0 n)) 3 (pk 0 0 0 tn)))))]) hD hS hA [3, 4, 5, 2] rfl
        refine va_callv (va_runV (As := [.ref stt]) (rest := []) ⟨hx, hb, hml, hown, hts⟩ (c_X0_encipher l dC dI cI tS H.size ci sc mv stt w v (gU (gU (gU (gU st0 0 (pk 1 2 1 (bs / 65536))) 1 (pk (bs / 256 % 256) (bs % 256) 10 (n / 2))) 2 (pk 0 0 0 n)) 3 (pk 0 0 0 tn)) r Wk (fstB bs (n / 2) n tn) hr1 hr2 hwk hW hst (fstB_lt hb2 (by omega) (by omega) (by omega))) (cwV 1 hts gX2_begin_X0_encipher rfl rfl rfl (by decide +kernel) ⟨Nat.le_of_ble_eq_true rfl, Nat.le_of_ble_eq_true rfl⟩) ⟨gPe_blind, va_recv hK hPc (ci := 0) (q0 := 0) rfl rfl, gPe_pre hPc hK hDc (hE.at hS) hFc⟩ rfl rfl hl.1 rfl (lv_room (Nat.le_of_ble_eq_true rfl)) dX2_begin_174 ⟨Nat.zero_le _, Nat.zero_le _⟩) hS (fun q _ h => hFc q h) hFc (fun u8 t8 H1 locs ht hvm hw hB hz1 hk1 hS => ?_)
        obtain ⟨v9_2, b9_2⟩ := u8
        try dsimp only at hw hB
        obtain ⟨hP, hD⟩ := gB_join (wr := [(wy, .inr (2, [.ref ci, .ref tw, .ref stt, .ref chd, .ref spr, .int (nI (ff1iw bs n tn)), .int (nI (ff1rp bs n tn)), .int (nI (ff1aw bs n))])), (tw, .inl (cI, 8, .inl (gA g))), (to, .inr (1, [.ref tc, .int (nI tn)])), (tc, .inl (cI, 64, .inl (gA tb))), (ro, .inr (4, [.ref rc, .int (nI n), .int (nI bs)])), (na, .inr (3, [.ref nc, .int (nI m9_1)])), (nc, .inl (cI, 17, .inl (gA f9_1)))]) (w2 := [(wy, .inr (2, [.ref ci, .ref tw, .ref stt, .ref chd, .ref spr, .int (nI (ff1iw bs n tn)), .int (nI (ff1rp bs n tn)), .int (nI (ff1aw bs n))])), (tw, .inl (cI, 8, .inl (gA g))), (to, .inr (1, [.ref tc, .int (nI tn)])), (tc, .inl (cI, 64, .inl (gA tb))), (ro, .inr (4, [.ref rc, .int (nI n), .int (nI bs)])), (na, .inr (3, [.ref nc, .int (nI m9_1)])), (nc, .inl (cI, 17, .inl (gA f9_1))), (ci, .inr (0, [.ref sc, .ref mv, .int (nI r)])), (sc, .inl (cI, 60, .inl (gA w))), (mv, .inl (cI, 4, .inl (gA v9_2))), (stt, .inl (cI, 4, .inl (gA b9_2)))]) hP hD [3, 4, 5, 2] [0, 1, 6, 7, 8, 9, 10] rfl rfl (by decide) (by decide) hk1 hFc ht hB rfl
        clear hk1 hz1 ht hB hvm hPc hDc hFc
        generalize H1 = H at hP hS ⊢
        have hst9 := hw
        exact W.vret hx hb hr (fun t ht hW => ⟨⟨(g, b9_2, v9_2, m9_1, f9_1), rfl, ⟨hg, hst9⟩, gB_end ht hW (hP.sub [0, 1, 10, 7, 8, 9, 4, 2, 3, 5, 6] rfl) hK (hD.sub [0, 1, 10, 7, 8, 9, 4, 2, 3, 5, 6] (by decide) rfl)⟩, hS.F ht⟩) hS.2.2 dX2_begin_177
      ·
        refine lv_aload_n hx hb dX2_begin_84 rfl (lv_at hl 2 rfl) ?_
        refine gv_get (own := RX2) (D := (dC, dI)) (ci := 2) (C := RX2) (T := TX2) (N := 8) (v := .ref tw) hx hb hts (by decide +kernel) hown hK hP 0 rfl rfl 1 (by decide) (hts (.fieldLink RX2 11 "NumeralCipher$FirstWay" "tweakWords" "[I") (by decide +kernel)) rfl rfl dX2_begin_85 ?_
        refine lv_iload hx hb dX2_begin_88 (lv_at hl 0 rfl) ?_
        refine lv_aload_n hx hb dX2_begin_90 rfl (lv_at hl 4 rfl) ?_
        refine lv_iload hx hb dX2_begin_91 (lv_at hl 0 rfl) ?_
        have hPc := hP.sub (ws' := [(to, .inr (1, [.ref tc, .int (nI tn)])), (tc, .inl (cI, 64, .inl (gA tb)))]) [6, 7] rfl
        have hDc := hD.sub (ws' := [(to, .inr (1, [.ref tc, .int (nI tn)])), (tc, .inl (cI, 64, .inl (gA tb)))]) [6, 7] (by decide) rfl
        refine gv_callR (W.runV (As := [.int (nI i)]) (rest := [.int (nI i), .ref tw]) ⟨hx, hb, hml, hown, hts⟩ (c_X1_wordAt l dC dI cI H.size to tc tn tb i (by omega) htb) (cwV 1 hts gX2_begin_X1_wordAt rfl rfl rfl (by decide +kernel) ⟨Nat.le_of_ble_eq_true rfl, Nat.le_of_ble_eq_true rfl⟩) ⟨gPc_blind, va_recv hK hPc (ci := 1) (q0 := 0) rfl rfl, gPc_pre hPc hK hDc⟩ rfl rfl hl.1 rfl (lv_room (Nat.le_of_ble_eq_true rfl)) dX2_begin_93 ⟨Nat.zero_le _, Nat.zero_le _⟩) ?_
        clear hPc hDc
        refine gv_iast (ws' := [(wy, .inr (2, [.ref ci, .ref tw, .ref stt, .ref chd, .ref spr, .int (nI (ff1iw bs n tn)), .int (nI (ff1rp bs n tn)), .int (nI (ff1aw bs n))])), (tw, .inl (cI, 8, .inl (gA (gU g i (pkf tb i))))), (stt, .inl (cI, 4, .inl (gA st0))), (ci, .inr (0, [.ref sc, .ref mv, .int (nI r)])), (sc, .inl (cI, 60, .inl (gA w))), (mv, .inl (cI, 4, .inl (gA v))), (to, .inr (1, [.ref tc, .int (nI tn)])), (tc, .inl (cI, 64, .inl (gA tb))), (ro, .inr (4, [.ref rc, .int (nI n), .int (nI bs)])), (na, .inr (3, [.ref nc, .int (nI m9_1)])), (nc, .inl (cI, 17, .inl (gA f9_1)))]) hx hb hK hP hD hS 1 0 rfl rfl rfl (by omega) (by omega) dX2_begin_96 (fun H locs hP hD hS => ?_)
        refine lv_iinc (v := nI (i + 1)) (lv' := [(6, .int (nI (i + 1))), (4, .int (nI (n / 2))), (0, .ref wy), (1, .ref ro), (2, .ref to), (3, .ref na)]) hx hb dX2_begin_97 hl (k := 0) rfl (gz_inc1 _) (by decide) rfl (fun ls hl => ?_)
        refine lv_goto (tgt := 77) hx hb dX2_begin_100 (by decide) ?_
        exact ih9_77 _ (by omega) (i + 1) (gU g i (pkf tb i)) rfl (by omega) (fl_s hg rfl) _ _ hP hD hS _ hl
  exact L77 _ 0 tw0 rfl (by omega) (fl_0 (fun _ _ => rfl)) _ _ hP hD hS _ (lv_sub hl [0, 2, 3, 4, 5, 6] rfl)
