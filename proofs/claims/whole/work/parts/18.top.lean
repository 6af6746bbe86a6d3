set_option maxHeartbeats 4000000 in
set_option maxRecDepth 100000 in
/-- wayOf(0) -/
theorem c_X7_wayOf_0 (l : Launch) (dC : Nat → ClassId) (dI : Nat → Nat → Nat) (cI : ClassId) (sz : Nat) (x : Nat) (bf : Nat) (kb : Nat) (to : Nat) (ro : Nat) (fw : Nat) (sw : Nat) (na : Nat) (wo : Nat) : Met l yX7_wayOf wsX7_wayOf ({ frames := 0, cells := 0, slots := 0, locals := 0 }) (gPc dC dI cI [.ref x, .int (nI 0)] [(x, .inr (6, [.ref bf, .ref kb, .ref to, .ref ro, .ref fw, .ref sw, .ref na, .ref wo]))] sz) (QcRefR fw) 0 0 (fun _ => False) := by
  refine Met.ofW (cc := cX7_wayOf) (maxL := 2) (ret := (some (.object "NumeralCipher$Way"))) (by decide) rfl ?_
  intro p e s m args below meth c s₁ B9 hml hv
  obtain ⟨rfl, hsz, ⟨hP, hK, hD0⟩⟩ := hv
  have hx := B9.exec
  have hb := B9.bytes
  have hr := B9.returns
  have hts := atoms_spec (ws := wsX7_wayOf) B9.pre
  have hown : s.vm.findClass RX7 = some m.cls := findClass_of_methodNamed B9.named
  have hlocks := B9.notSynchronized
  subst hsz
  have hD := hD0.self (sz := s.heap.size)
  generalize hAe : va_A [(x, .inr (6, [.ref bf, .ref kb, .ref to, .ref ro, .ref fw, .ref sw, .ref na, .ref wo]))] s.heap.size = A at hD
  have hA : ∀ q : Nat, s.heap.size ≤ q → A q := fun q h => by rw [← hAe]; exact Or.inr h
  have hS : va_S A s.heap s.heap [] := va_S.rf
  have hl := lv_entry ([.ref x, .int (nI 0)]) (n := 2) (Nat.le_of_ble_eq_true rfl)
  rw [lg_entry_eq]
  generalize (lg_sl ([.ref x, .int (nI 0)]) ++ List.replicate (2 - (lg_sl ([.ref x, .int (nI 0)])).length) Slot.unset).toArray = ls at hl ⊢
  have hl : lv_has ls 2 [(0, .ref x), (1, .int (nI 0))] := hl
  refine lv_iload_n hx hb dX7_wayOf_0 rfl (lv_at hl 1 rfl) ?_
  refine gv_if_ne (tgt := 11) hx hb dX7_wayOf_1 (by decide) (by omega) (fun c_1 => ?_) (fun c_1 => ?_)
  ·
    exact absurd rfl c_1
  ·
    refine lv_aload_n hx hb dX7_wayOf_4 rfl (lv_at hl 0 rfl) ?_
    refine gv_get (own := RX7) (D := (dC, dI)) (ci := 6) (C := RX7) (T := TX7) (N := 8) (v := .ref fw) hx hb hts (by decide +kernel) hown hK hP 0 rfl rfl 4 (by decide) (hts (.fieldLink RX7 32 "NumeralCipher" "firstWay" "LNumeralCipher$FirstWay;") (by decide +kernel)) rfl rfl dX7_wayOf_5 ?_
    refine lv_goto (tgt := 15) hx hb dX7_wayOf_8 (by decide) ?_
    exact W.aret (v := .ref fw) hx hb hr (Or.inl ⟨_, rfl⟩) (Or.inr ⟨_, rfl⟩) (fun t ht hW => ⟨rfl, ht⟩) (fun q h => by cases h) dX7_wayOf_15

set_option maxHeartbeats 4000000 in
set_option maxRecDepth 100000 in
/-- wayOf(1) -/
theorem c_X7_wayOf_1 (l : Launch) (dC : Nat → ClassId) (dI : Nat → Nat → Nat) (cI : ClassId) (sz : Nat) (x : Nat) (bf : Nat) (kb : Nat) (to : Nat) (ro : Nat) (fw : Nat) (sw : Nat) (na : Nat) (wo : Nat) : Met l yX7_wayOf wsX7_wayOf ({ frames := 0, cells := 0, slots := 0, locals := 0 }) (gPc dC dI cI [.ref x, .int (nI 1)] [(x, .inr (6, [.ref bf, .ref kb, .ref to, .ref ro, .ref fw, .ref sw, .ref na, .ref wo]))] sz) (QcRefR sw) 0 0 (fun _ => False) := by
  refine Met.ofW (cc := cX7_wayOf) (maxL := 2) (ret := (some (.object "NumeralCipher$Way"))) (by decide) rfl ?_
  intro p e s m args below meth c s₁ B9 hml hv
  obtain ⟨rfl, hsz, ⟨hP, hK, hD0⟩⟩ := hv
  have hx := B9.exec
  have hb := B9.bytes
  have hr := B9.returns
  have hts := atoms_spec (ws := wsX7_wayOf) B9.pre
  have hown : s.vm.findClass RX7 = some m.cls := findClass_of_methodNamed B9.named
  have hlocks := B9.notSynchronized
  subst hsz
  have hD := hD0.self (sz := s.heap.size)
  generalize hAe : va_A [(x, .inr (6, [.ref bf, .ref kb, .ref to, .ref ro, .ref fw, .ref sw, .ref na, .ref wo]))] s.heap.size = A at hD
  have hA : ∀ q : Nat, s.heap.size ≤ q → A q := fun q h => by rw [← hAe]; exact Or.inr h
  have hS : va_S A s.heap s.heap [] := va_S.rf
  have hl := lv_entry ([.ref x, .int (nI 1)]) (n := 2) (Nat.le_of_ble_eq_true rfl)
  rw [lg_entry_eq]
  generalize (lg_sl ([.ref x, .int (nI 1)]) ++ List.replicate (2 - (lg_sl ([.ref x, .int (nI 1)])).length) Slot.unset).toArray = ls at hl ⊢
  have hl : lv_has ls 2 [(0, .ref x), (1, .int (nI 1))] := hl
  refine lv_iload_n hx hb dX7_wayOf_0 rfl (lv_at hl 1 rfl) ?_
  refine gv_if_ne (tgt := 11) hx hb dX7_wayOf_1 (by decide) (by omega) (fun c_1 => ?_) (fun c_1 => ?_)
  ·
    refine lv_aload_n hx hb dX7_wayOf_11 rfl (lv_at hl 0 rfl) ?_
    refine gv_get (own := RX7) (D := (dC, dI)) (ci := 6) (C := RX7) (T := TX7) (N := 8) (v := .ref sw) hx hb hts (by decide +kernel) hown hK hP 0 rfl rfl 5 (by decide) (hts (.fieldLink RX7 39 "NumeralCipher" "secondWay" "LNumeralCipher$SecondWay;") (by decide +kernel)) rfl rfl dX7_wayOf_12 ?_
    exact W.aret (v := .ref sw) hx hb hr (Or.inl ⟨_, rfl⟩) (Or.inr ⟨_, rfl⟩) (fun t ht hW => ⟨rfl, ht⟩) (fun q h => by cases h) dX7_wayOf_15
  ·
    exact absurd c_1 (by omega)

set_option maxHeartbeats 4000000 in
set_option maxRecDepth 100000 in
/-- expandKey() -/
theorem c_X7_expandKey (l : Launch) (dC : Nat → ClassId) (dI : Nat → Nat → Nat) (cI : ClassId) (tS : Nat) (sz : Nat) (x : Nat) (bf : Nat) (kb : Nat) (to : Nat) (ro : Nat) (fw : Nat) (sw : Nat) (na : Nat) (wo : Nat) (kc : Nat) (ci : Nat) (tw : Nat) (stt : Nat) (chd : Nat) (spr : Nat) (sc : Nat) (mv : Nat) (ci2 : Nat) (tu : Nat) (sc2 : Nat) (mv2 : Nat) (n : Nat) (iw : Nat) (rp : Nat) (aw : Nat) (lf : Nat) (rt : Nat) (r1 : Nat) (r2 : Nat) (b : Nat → Nat) (w1 : Nat → Nat) (w2 : Nat → Nat) (hn : n = 16 ∨ n = 24 ∨ n = 32) (hbb : ∀ j, j < 64 → b j < 256) : Met l yX7_expandKey wsX7_expandKey ({ frames := 3, cells := 0, slots := 0, locals := 67 }) (gPe dC dI cI tS [.ref x] [(x, .inr (6, [.ref bf, .ref kb, .ref to, .ref ro, .ref fw, .ref sw, .ref na, .ref wo])), (kb, .inr (1, [.ref kc, .int (nI n)])), (kc, .inl (cI, 64, .inl (gA b))), (fw, .inr (2, [.ref ci, .ref tw, .ref stt, .ref chd, .ref spr, .int (nI iw), .int (nI rp), .int (nI aw)])), (ci, .inr (0, [.ref sc, .ref mv, .int (nI r1)])), (sc, .inl (cI, 60, .inl (gA w1))), (sw, .inr (5, [.ref ci2, .ref tu, .int (nI lf), .int (nI rt)])), (ci2, .inr (0, [.ref sc2, .ref mv2, .int (nI r2)])), (sc2, .inl (cI, 60, .inl (gA w2)))] sz) (va_Qv (fun u : (Nat → Nat) × (Nat → Nat) => (∀ k, k < 4 * (n / 4 + 7) → u.1 k = pkf (ksS (keyK 0 b (n / 4)) (n / 4) (3 * (n / 4) + 28)) k) ∧ (∀ k, k < 4 * (n / 4 + 7) → u.2 k = pkf (ksS (keyK 1 b (n / 4)) (n / 4) (3 * (n / 4) + 28)) k)) (fun u t => gB dC dI cI (va_A [(x, .inr (6, [.ref bf, .ref kb, .ref to, .ref ro, .ref fw, .ref sw, .ref na, .ref wo])), (kb, .inr (1, [.ref kc, .int (nI n)])), (kc, .inl (cI, 64, .inl (gA b))), (fw, .inr (2, [.ref ci, .ref tw, .ref stt, .ref chd, .ref spr, .int (nI iw), .int (nI rp), .int (nI aw)])), (ci, .inr (0, [.ref sc, .ref mv, .int (nI r1)])), (sc, .inl (cI, 60, .inl (gA w1))), (sw, .inr (5, [.ref ci2, .ref tu, .int (nI lf), .int (nI rt)])), (ci2, .inr (0, [.ref sc2, .ref mv2, .int (nI r2)])), (sc2, .inl (cI, 60, .inl (gA w2)))] sz) [(x, .inr (6, [.ref bf, .ref kb, .ref to, .ref ro, .ref fw, .ref sw, .ref na, .ref wo])), (kb, .inr (1, [.ref kc, .int (nI n)])), (kc, .inl (cI, 64, .inl (gA b))), (fw, .inr (2, [.ref ci, .ref tw, .ref stt, .ref chd, .ref spr, .int (nI iw), .int (nI rp), .int (nI aw)])), (ci, .inr (0, [.ref sc, .ref mv, .int (nI (n / 4 + 6))])), (sc, .inl (cI, 60, .inl (gA u.1))), (sw, .inr (5, [.ref ci2, .ref tu, .int (nI lf), .int (nI rt)])), (ci2, .inr (0, [.ref sc2, .ref mv2, .int (nI (n / 4 + 6))])), (sc2, .inl (cI, 60, .inl (gA u.2)))] t) (va_A [(x, .inr (6, [.ref bf, .ref kb, .ref to, .ref ro, .ref fw, .ref sw, .ref na, .ref wo])), (kb, .inr (1, [.ref kc, .int (nI n)])), (kc, .inl (cI, 64, .inl (gA b))), (fw, .inr (2, [.ref ci, .ref tw, .ref stt, .ref chd, .ref spr, .int (nI iw), .int (nI rp), .int (nI aw)])), (ci, .inr (0, [.ref sc, .ref mv, .int (nI r1)])), (sc, .inl (cI, 60, .inl (gA w1))), (sw, .inr (5, [.ref ci2, .ref tu, .int (nI lf), .int (nI rt)])), (ci2, .inr (0, [.ref sc2, .ref mv2, .int (nI r2)])), (sc2, .inl (cI, 60, .inl (gA w2)))] sz)) 0 0 (va_A [(x, .inr (6, [.ref bf, .ref kb, .ref to, .ref ro, .ref fw, .ref sw, .ref na, .ref wo])), (kb, .inr (1, [.ref kc, .int (nI n)])), (kc, .inl (cI, 64, .inl (gA b))), (fw, .inr (2, [.ref ci, .ref tw, .ref stt, .ref chd, .ref spr, .int (nI iw), .int (nI rp), .int (nI aw)])), (ci, .inr (0, [.ref sc, .ref mv, .int (nI r1)])), (sc, .inl (cI, 60, .inl (gA w1))), (sw, .inr (5, [.ref ci2, .ref tu, .int (nI lf), .int (nI rt)])), (ci2, .inr (0, [.ref sc2, .ref mv2, .int (nI r2)])), (sc2, .inl (cI, 60, .inl (gA w2)))] sz) := by
  refine Met.ofW (cc := cX7_expandKey) (maxL := 1) (ret := none) (by decide) rfl ?_
  intro p e s m args below meth c s₁ B9 hml hv
  obtain ⟨rfl, hsz, ⟨hP, hK, hD0⟩, hE⟩ := hv
  have hx := B9.exec
  have hb := B9.bytes
  have hr := B9.returns
  have hts := atoms_spec (ws := wsX7_expandKey) B9.pre
  have hown : s.vm.findClass RX7 = some m.cls := findClass_of_methodNamed B9.named
  have hlocks := B9.notSynchronized
  subst hsz
  have hD := hD0.self (sz := s.heap.size)
  generalize hAe : va_A [(x, .inr (6, [.ref bf, .ref kb, .ref to, .ref ro, .ref fw, .ref sw, .ref na, .ref wo])), (kb, .inr (1, [.ref kc, .int (nI n)])), (kc, .inl (cI, 64, .inl (gA b))), (fw, .inr (2, [.ref ci, .ref tw, .ref stt, .ref chd, .ref spr, .int (nI iw), .int (nI rp), .int (nI aw)])), (ci, .inr (0, [.ref sc, .ref mv, .int (nI r1)])), (sc, .inl (cI, 60, .inl (gA w1))), (sw, .inr (5, [.ref ci2, .ref tu, .int (nI lf), .int (nI rt)])), (ci2, .inr (0, [.ref sc2, .ref mv2, .int (nI r2)])), (sc2, .inl (cI, 60, .inl (gA w2)))] s.heap.size = A at hD hE ⊢
  have hA : ∀ q : Nat, s.heap.size ≤ q → A q := fun q h => by rw [← hAe]; exact Or.inr h
  have hS : va_S A s.heap s.heap [] := va_S.rf
  have hl := lv_entry ([.ref x]) (n := 1) (Nat.le_of_ble_eq_true rfl)
  rw [lg_entry_eq]
  generalize (lg_sl ([.ref x]) ++ List.replicate (1 - (lg_sl ([.ref x])).length) Slot.unset).toArray = ls at hl ⊢
  have hl : lv_has ls 1 [(0, .ref x)] := hl
  refine lv_aload_n hx hb dX7_expandKey_0 rfl (lv_at hl 0 rfl) ?_
  refine gv_get (own := RX7) (D := (dC, dI)) (ci := 6) (C := RX7) (T := TX7) (N := 8) (v := .ref fw) hx hb hts (by decide +kernel) hown hK hP 0 rfl rfl 4 (by decide) (hts (.fieldLink RX7 32 "NumeralCipher" "firstWay" "LNumeralCipher$FirstWay;") (by decide +kernel)) rfl rfl dX7_expandKey_1 ?_
  refine va_get (own := RX7) (D := (dC, dI)) (ci := 2) (C := RX2) (T := TX2) (N := 8) (v := .ref ci) hx hb hts (by decide +kernel) hown hK hP 3 rfl rfl 0 (by decide) (hts (.fieldLink RX7 89 "NumeralCipher$FirstWay" "cipher" "LNumeralCipher$BlockCipher;") (by decide +kernel)) (fun x9 h9 => u_same (hts (.sameField "NumeralCipher$FirstWay" "NumeralCipher$Way" "cipher" "LNumeralCipher$BlockCipher;") (by decide +kernel)) x9 h9) rfl dX7_expandKey_4 ?_
  refine lv_aload_n hx hb dX7_expandKey_7 rfl (lv_at hl 0 rfl) ?_
  refine gv_get (own := RX7) (D := (dC, dI)) (ci := 6) (C := RX7) (T := TX7) (N := 8) (v := .ref kb) hx hb hts (by decide +kernel) hown hK hP 0 rfl rfl 1 (by decide) (hts (.fieldLink RX7 16 "NumeralCipher" "keyBytes" "LNumeralCipher$Bytes;") (by decide +kernel)) rfl rfl dX7_expandKey_8 ?_
  refine lv_iconst (v := nI 0) hx hb dX7_expandKey_11 (by decide) ?_
  have hPc := hP.sub (ws' := [(ci, .inr (0, [.ref sc, .ref mv, .int (nI r1)])), (sc, .inl (cI, 60, .inl (gA w1))), (kb, .inr (1, [.ref kc, .int (nI n)])), (kc, .inl (cI, 64, .inl (gA b)))]) [4, 5, 1, 2] rfl
  have hDc := hD.sub (ws' := [(ci, .inr (0, [.ref sc, .ref mv, .int (nI r1)])), (sc, .inl (cI, 60, .inl (gA w1))), (kb, .inr (1, [.ref kc, .int (nI n)])), (kc, .inl (cI, 64, .inl (gA b)))]) [4, 5, 1, 2] (by decide) rfl
  have hFc := va_free (wc := [(ci, .inr (0, [.ref sc, .ref mv, .int (nI r1)])), (sc, .inl (cI, 60, .inl (gA w1))), (kb, .inr (1, [.ref kc, .int (nI n)])), (kc, .inl (cI, 64, .inl (gA b)))]) hD hS hA [4, 5, 1, 2] rfl
  refine va_callv (va_runV (As := [.ref kb, .int (nI 0)]) (rest := []) ⟨hx, hb, hml, hown, hts⟩ (c_X0_expand l dC dI cI tS s.heap.size ci sc mv kb kc w1 r1 b n 0 hn hbb (by omega)) (cwV 2 hts gX7_expandKey_X0_expand rfl rfl rfl (by decide +kernel) ⟨Nat.le_of_ble_eq_true rfl, Nat.le_of_ble_eq_true rfl⟩) ⟨gPe_blind, va_recv hK hPc (ci := 0) (q0 := 0) rfl rfl, gPe_pre hPc hK hDc (hE.at hS) hFc⟩ rfl rfl hl.1 rfl (lv_room (Nat.le_of_ble_eq_true rfl)) dX7_expandKey_12 ⟨Nat.zero_le _, Nat.zero_le _⟩) hS (fun q _ h => hFc q h) hFc (fun u8 t8 H1 locs ht hvm hw hB hz1 hk1 hS => ?_)
  obtain ⟨w9_1, rfl⟩ : ∃ z, z = u8 := ⟨_, rfl⟩
  try dsimp only at hw hB
  obtain ⟨hP, hD⟩ := gB_join (wr := [(x, .inr (6, [.ref bf, .ref kb, .ref to, .ref ro, .ref fw, .ref sw, .ref na, .ref wo])), (fw, .inr (2, [.ref ci, .ref tw, .ref stt, .ref chd, .ref spr, .int (nI iw), .int (nI rp), .int (nI aw)])), (sw, .inr (5, [.ref ci2, .ref tu, .int (nI lf), .int (nI rt)])), (ci2, .inr (0, [.ref sc2, .ref mv2, .int (nI r2)])), (sc2, .inl (cI, 60, .inl (gA w2)))]) (w2 := [(x, .inr (6, [.ref bf, .ref kb, .ref to, .ref ro, .ref fw, .ref sw, .ref na, .ref wo])), (fw, .inr (2, [.ref ci, .ref tw, .ref stt, .ref chd, .ref spr, .int (nI iw), .int (nI rp), .int (nI aw)])), (sw, .inr (5, [.ref ci2, .ref tu, .int (nI lf), .int (nI rt)])), (ci2, .inr (0, [.ref sc2, .ref mv2, .int (nI r2)])), (sc2, .inl (cI, 60, .inl (gA w2))), (ci, .inr (0, [.ref sc, .ref mv, .int (nI (n / 4 + 6))])), (sc, .inl (cI, 60, .inl (gA w9_1))), (kb, .inr (1, [.ref kc, .int (nI n)])), (kc, .inl (cI, 64, .inl (gA b)))]) hP hD [4, 5, 1, 2] [0, 3, 6, 7, 8] rfl rfl (by decide) (by decide) hk1 hFc ht hB rfl
  clear hk1 hz1 ht hB hvm hPc hDc hFc
  generalize H1 = H at hP hS ⊢
  have hk1 := hw
  refine lv_aload_n hx hb dX7_expandKey_15 rfl (lv_at hl 0 rfl) ?_
  refine gv_get (own := RX7) (D := (dC, dI)) (ci := 6) (C := RX7) (T := TX7) (N := 8) (v := .ref sw) hx hb hts (by decide +kernel) hown hK hP 0 rfl rfl 5 (by decide) (hts (.fieldLink RX7 39 "NumeralCipher" "secondWay" "LNumeralCipher$SecondWay;") (by decide +kernel)) rfl rfl dX7_expandKey_16 ?_
  refine va_get (own := RX7) (D := (dC, dI)) (ci := 5) (C := RX5) (T := TX5) (N := 4) (v := .ref ci2) hx hb hts (by decide +kernel) hown hK hP 2 rfl rfl 0 (by decide) (hts (.fieldLink RX7 157 "NumeralCipher$SecondWay" "cipher" "LNumeralCipher$BlockCipher;") (by decide +kernel)) (fun x9 h9 => u_same (hts (.sameField "NumeralCipher$SecondWay" "NumeralCipher$Way" "cipher" "LNumeralCipher$BlockCipher;") (by decide +kernel)) x9 h9) rfl dX7_expandKey_19 ?_
  refine lv_aload_n hx hb dX7_expandKey_22 rfl (lv_at hl 0 rfl) ?_
  refine gv_get (own := RX7) (D := (dC, dI)) (ci := 6) (C := RX7) (T := TX7) (N := 8) (v := .ref kb) hx hb hts (by decide +kernel) hown hK hP 0 rfl rfl 1 (by decide) (hts (.fieldLink RX7 16 "NumeralCipher" "keyBytes" "LNumeralCipher$Bytes;") (by decide +kernel)) rfl rfl dX7_expandKey_23 ?_
  refine lv_iconst (v := nI 1) hx hb dX7_expandKey_26 (by decide) ?_
  have hPc := hP.sub (ws' := [(ci2, .inr (0, [.ref sc2, .ref mv2, .int (nI r2)])), (sc2, .inl (cI, 60, .inl (gA w2))), (kb, .inr (1, [.ref kc, .int (nI n)])), (kc, .inl (cI, 64, .inl (gA b)))]) [3, 4, 7, 8] rfl
  have hDc := hD.sub (ws' := [(ci2, .inr (0, [.ref sc2, .ref mv2, .int (nI r2)])), (sc2, .inl (cI, 60, .inl (gA w2))), (kb, .inr (1, [.ref kc, .int (nI n)])), (kc, .inl (cI, 64, .inl (gA b)))]) [3, 4, 7, 8] (by decide) rfl
  have hFc := va_free (wc := [(ci2, .inr (0, [.ref sc2, .ref mv2, .int (nI r2)])), (sc2, .inl (cI, 60, .inl (gA w2))), (kb, .inr (1, [.ref kc, .int (nI n)])), (kc, .inl (cI, 64, .inl (gA b)))]) hD hS hA [3, 4, 7, 8] rfl
  refine va_callv (va_runV (As := [.ref kb, .int (nI 1)]) (rest := []) ⟨hx, hb, hml, hown, hts⟩ (c_X0_expand l dC dI cI tS H.size ci2 sc2 mv2 kb kc w2 r2 b n 1 hn hbb (by omega)) (cwV 2 hts gX7_expandKey_X0_expand rfl rfl rfl (by decide +kernel) ⟨Nat.le_of_ble_eq_true rfl, Nat.le_of_ble_eq_true rfl⟩) ⟨gPe_blind, va_recv hK hPc (ci := 0) (q0 := 0) rfl rfl, gPe_pre hPc hK hDc (hE.at hS) hFc⟩ rfl rfl hl.1 rfl (lv_room (Nat.le_of_ble_eq_true rfl)) dX7_expandKey_27 ⟨Nat.zero_le _, Nat.zero_le _⟩) hS (fun q _ h => hFc q h) hFc (fun u8 t8 H1 locs ht hvm hw hB hz1 hk1 hS => ?_)
  obtain ⟨w9_2, rfl⟩ : ∃ z, z = u8 := ⟨_, rfl⟩
  try dsimp only at hw hB
  obtain ⟨hP, hD⟩ := gB_join (wr := [(x, .inr (6, [.ref bf, .ref kb, .ref to, .ref ro, .ref fw, .ref sw, .ref na, .ref wo])), (fw, .inr (2, [.ref ci, .ref tw, .ref stt, .ref chd, .ref spr, .int (nI iw), .int (nI rp), .int (nI aw)])), (sw, .inr (5, [.ref ci2, .ref tu, .int (nI lf), .int (nI rt)])), (ci, .inr (0, [.ref sc, .ref mv, .int (nI (n / 4 + 6))])), (sc, .inl (cI, 60, .inl (gA w9_1)))]) (w2 := [(x, .inr (6, [.ref bf, .ref kb, .ref to, .ref ro, .ref fw, .ref sw, .ref na, .ref wo])), (fw, .inr (2, [.ref ci, .ref tw, .ref stt, .ref chd, .ref spr, .int (nI iw), .int (nI rp), .int (nI aw)])), (sw, .inr (5, [.ref ci2, .ref tu, .int (nI lf), .int (nI rt)])), (ci, .inr (0, [.ref sc, .ref mv, .int (nI (n / 4 + 6))])), (sc, .inl (cI, 60, .inl (gA w9_1))), (ci2, .inr (0, [.ref sc2, .ref mv2, .int (nI (n / 4 + 6))])), (sc2, .inl (cI, 60, .inl (gA w9_2))), (kb, .inr (1, [.ref kc, .int (nI n)])), (kc, .inl (cI, 64, .inl (gA b)))]) hP hD [3, 4, 7, 8] [0, 1, 2, 5, 6] rfl rfl (by decide) (by decide) hk1 hFc ht hB rfl
  clear hk1 hz1 ht hB hvm hPc hDc hFc
  generalize H1 = H at hP hS ⊢
  have hk2 := hw
  exact W.vret hx hb hr (fun t ht hW => ⟨⟨(w9_1, w9_2), rfl, ⟨hk1, hk2⟩, gB_end ht hW (hP.sub [0, 7, 8, 1, 3, 4, 2, 5, 6] rfl) hK (hD.sub [0, 7, 8, 1, 3, 4, 2, 5, 6] (by decide) rfl)⟩, hS.F ht⟩) hS.2.2 dX7_expandKey_30

set_option maxHeartbeats 4000000 in
set_option maxRecDepth 100000 in
/-- isTurnable(0) -/
theorem c_X7_isTurnable_0 (l : Launch) (dC : Nat → ClassId) (dI : Nat → Nat → Nat) (cI : ClassId) (tS : Nat) (sz : Nat) (x : Nat) (bf : Nat) (kb : Nat) (to : Nat) (ro : Nat) (fw : Nat) (sw : Nat) (na : Nat) (wo : Nat) (rc : Nat) (tc : Nat) (nc : Nat) (n : Nat) (bs : Nat) (tn : Nat) (k0 : Nat) (ci : Nat) (tw : Nat) (stt : Nat) (chd : Nat) (spr : Nat) (iw : Nat) (rp : Nat) (aw : Nat) (f0 : Nat → Nat) (hn : n ≤ 64) (hb1 : 2 ≤ bs) (hb2 : bs ≤ 65536) (htn : tn ≤ 64) : Met l yX7_isTurnable wsX7_isTurnable ({ frames := 1, cells := 0, slots := 0, locals := 23 }) (gPe dC dI cI tS [.ref x, .int (nI 0)] [(x, .inr (6, [.ref bf, .ref kb, .ref to, .ref ro, .ref fw, .ref sw, .ref na, .ref wo])), (ro, .inr (4, [.ref rc, .int (nI n), .int (nI bs)])), (to, .inr (1, [.ref tc, .int (nI tn)])), (fw, .inr (2, [.ref ci, .ref tw, .ref stt, .ref chd, .ref spr, .int (nI iw), .int (nI rp), .int (nI aw)])), (na, .inr (3, [.ref nc, .int (nI k0)])), (nc, .inl (cI, 17, .inl (gA f0)))] sz) (va_Qi (fun (r : Int32) (u : Nat × (Nat → Nat)) => r = (nI (if 2 ≤ n ∧ 1000000 ≤ bs ^ n then 1 else 0))) (fun u t => gB dC dI cI (va_A [(x, .inr (6, [.ref bf, .ref kb, .ref to, .ref ro, .ref fw, .ref sw, .ref na, .ref wo])), (ro, .inr (4, [.ref rc, .int (nI n), .int (nI bs)])), (to, .inr (1, [.ref tc, .int (nI tn)])), (fw, .inr (2, [.ref ci, .ref tw, .ref stt, .ref chd, .ref spr, .int (nI iw), .int (nI rp), .int (nI aw)])), (na, .inr (3, [.ref nc, .int (nI k0)])), (nc, .inl (cI, 17, .inl (gA f0)))] sz) [(x, .inr (6, [.ref bf, .ref kb, .ref to, .ref ro, .ref fw, .ref sw, .ref na, .ref wo])), (ro, .inr (4, [.ref rc, .int (nI n), .int (nI bs)])), (to, .inr (1, [.ref tc, .int (nI tn)])), (fw, .inr (2, [.ref ci, .ref tw, .ref stt, .ref chd, .ref spr, .int (nI iw), .int (nI rp), .int (nI aw)])), (na, .inr (3, [.ref nc, .int (nI u.1)])), (nc, .inl (cI, 17, .inl (gA u.2)))] t) (va_A [(x, .inr (6, [.ref bf, .ref kb, .ref to, .ref ro, .ref fw, .ref sw, .ref na, .ref wo])), (ro, .inr (4, [.ref rc, .int (nI n), .int (nI bs)])), (to, .inr (1, [.ref tc, .int (nI tn)])), (fw, .inr (2, [.ref ci, .ref tw, .ref stt, .ref chd, .ref spr, .int (nI iw), .int (nI rp), .int (nI aw)])), (na, .inr (3, [.ref nc, .int (nI k0)])), (nc, .inl (cI, 17, .inl (gA f0)))] sz)) 0 0 (va_A [(x, .inr (6, [.ref bf, .ref kb, .ref to, .ref ro, .ref fw, .ref sw, .ref na, .ref wo])), (ro, .inr (4, [.ref rc, .int (nI n), .int (nI bs)])), (to, .inr (1, [.ref tc, .int (nI tn)])), (fw, .inr (2, [.ref ci, .ref tw, .ref stt, .ref chd, .ref spr, .int (nI iw), .int (nI rp), .int (nI aw)])), (na, .inr (3, [.ref nc, .int (nI k0)])), (nc, .inl (cI, 17, .inl (gA f0)))] sz) := by
  refine Met.ofW (cc := cX7_isTurnable) (maxL := 2) (ret := (some .boolean)) (by decide) rfl ?_
  intro p e s m args below meth c s₁ B9 hml hv
  obtain ⟨rfl, hsz, ⟨hP, hK, hD0⟩, hE⟩ := hv
  have hx := B9.exec
  have hb := B9.bytes
  have hr := B9.returns
  have hts := atoms_spec (ws := wsX7_isTurnable) B9.pre
  have hown : s.vm.findClass RX7 = some m.cls := findClass_of_methodNamed B9.named
  have hlocks := B9.notSynchronized
  subst hsz
  have hD := hD0.self (sz := s.heap.size)
  generalize hAe : va_A [(x, .inr (6, [.ref bf, .ref kb, .ref to, .ref ro, .ref fw, .ref sw, .ref na, .ref wo])), (ro, .inr (4, [.ref rc, .int (nI n), .int (nI bs)])), (to, .inr (1, [.ref tc, .int (nI tn)])), (fw, .inr (2, [.ref ci, .ref tw, .ref stt, .ref chd, .ref spr, .int (nI iw), .int (nI rp), .int (nI aw)])), (na, .inr (3, [.ref nc, .int (nI k0)])), (nc, .inl (cI, 17, .inl (gA f0)))] s.heap.size = A at hD hE ⊢
  have hA : ∀ q : Nat, s.heap.size ≤ q → A q := fun q h => by rw [← hAe]; exact Or.inr h
  have hS : va_S A s.heap s.heap [] := va_S.rf
  have hl := lv_entry ([.ref x, .int (nI 0)]) (n := 2) (Nat.le_of_ble_eq_true rfl)
  rw [lg_entry_eq]
  generalize (lg_sl ([.ref x, .int (nI 0)]) ++ List.replicate (2 - (lg_sl ([.ref x, .int (nI 0)])).length) Slot.unset).toArray = ls at hl ⊢
  have hl : lv_has ls 2 [(0, .ref x), (1, .int (nI 0))] := hl
  refine lv_aload_n hx hb dX7_isTurnable_0 rfl (lv_at hl 0 rfl) ?_
  refine gv_get (own := RX7) (D := (dC, dI)) (ci := 6) (C := RX7) (T := TX7) (N := 8) (v := .ref ro) hx hb hts (by decide +kernel) hown hK hP 0 rfl rfl 3 (by decide) (hts (.fieldLink RX7 25 "NumeralCipher" "row" "LNumeralCipher$Row;") (by decide +kernel)) rfl rfl dX7_isTurnable_1 ?_
  have hPc := hP.sub (ws' := [(ro, .inr (4, [.ref rc, .int (nI n), .int (nI bs)]))]) [1] rfl
  have hDc := hD.sub (ws' := [(ro, .inr (4, [.ref rc, .int (nI n), .int (nI bs)]))]) [1] (by decide) rfl
  refine gv_callR (W.runV (As := []) (rest := []) ⟨hx, hb, hml, hown, hts⟩ (c_X4_isLongEnough l dC dI cI s.heap.size ro rc n bs (by omega) (by omega) (by omega)) (cwV 0 hts gX7_isTurnable_X4_isLongEnough rfl rfl rfl (by decide +kernel) ⟨Nat.le_of_ble_eq_true rfl, Nat.le_of_ble_eq_true rfl⟩) ⟨gPc_blind, va_recv hK hPc (ci := 4) (q0 := 0) rfl rfl, gPc_pre hPc hK hDc⟩ rfl rfl hl.1 rfl (lv_room (Nat.le_of_ble_eq_true rfl)) dX7_isTurnable_4 ⟨Nat.zero_le _, Nat.zero_le _⟩) ?_
  clear hPc hDc
  refine gv_if_eq (tgt := 37) hx hb dX7_isTurnable_7 (by decide) (by split <;> decide) (fun c_7 => ?_) (fun c_7 => ?_)
  ·
    have hq : ¬ (2 ≤ n ∧ 1000000 ≤ bs ^ n) := fun q9 => absurd ((if_pos q9).symm.trans c_7) (by decide)
    refine lv_iconst (v := nI 0) hx hb dX7_isTurnable_37 (by decide) ?_
    refine gv_top (y := nI (if 2 ≤ n ∧ 1000000 ≤ bs ^ n then 1 else 0)) (congrArg nI (if_neg hq).symm) ?_
    exact W.zret (v := (nI (if 2 ≤ n ∧ 1000000 ≤ bs ^ n then 1 else 0))) hx hb hr (by split <;> rfl) (fun t ht hW => ⟨⟨_, (k0, f0), rfl, rfl, gB_end ht hW hP hK hD⟩, hS.F ht⟩) hS.2.2 dX7_isTurnable_38
  ·
    have hq : 2 ≤ n ∧ 1000000 ≤ bs ^ n := Classical.byContradiction (fun q9 => c_7 (if_neg q9))
    refine lv_aload_n hx hb dX7_isTurnable_10 rfl (lv_at hl 0 rfl) ?_
    refine lv_iload_n hx hb dX7_isTurnable_11 rfl (lv_at hl 1 rfl) ?_
    have hPc := hP.sub (ws' := [(x, .inr (6, [.ref bf, .ref kb, .ref to, .ref ro, .ref fw, .ref sw, .ref na, .ref wo]))]) [0] rfl
    have hDc := hD.sub (ws' := [(x, .inr (6, [.ref bf, .ref kb, .ref to, .ref ro, .ref fw, .ref sw, .ref na, .ref wo]))]) [0] (by decide) rfl
    refine gv_callRf (W.runV (As := [.int (nI 0)]) (rest := []) ⟨hx, hb, hml, hown, hts⟩ (c_X7_wayOf_0 l dC dI cI s.heap.size x bf kb to ro fw sw na wo ) (cwV 1 hts gX7_isTurnable_X7_wayOf rfl rfl rfl (by decide +kernel) ⟨Nat.le_of_ble_eq_true rfl, Nat.le_of_ble_eq_true rfl⟩) ⟨gPc_blind, va_recv hK hPc (ci := 6) (q0 := 0) rfl rfl, gPc_pre hPc hK hDc⟩ rfl rfl hl.1 rfl (lv_room (Nat.le_of_ble_eq_true rfl)) dX7_isTurnable_12 ⟨Nat.zero_le _, Nat.zero_le _⟩) ?_
    clear hPc hDc
    refine lv_aload_n hx hb dX7_isTurnable_15 rfl (lv_at hl 0 rfl) ?_
    refine gv_get (own := RX7) (D := (dC, dI)) (ci := 6) (C := RX7) (T := TX7) (N := 8) (v := .ref ro) hx hb hts (by decide +kernel) hown hK hP 0 rfl rfl 3 (by decide) (hts (.fieldLink RX7 25 "NumeralCipher" "row" "LNumeralCipher$Row;") (by decide +kernel)) rfl rfl dX7_isTurnable_16 ?_
    refine lv_aload_n hx hb dX7_isTurnable_19 rfl (lv_at hl 0 rfl) ?_
    refine gv_get (own := RX7) (D := (dC, dI)) (ci := 6) (C := RX7) (T := TX7) (N := 8) (v := .ref to) hx hb hts (by decide +kernel) hown hK hP 0 rfl rfl 2 (by decide) (hts (.fieldLink RX7 19 "NumeralCipher" "tweakBytes" "LNumeralCipher$Bytes;") (by decide +kernel)) rfl rfl dX7_isTurnable_20 ?_
    refine lv_aload_n hx hb dX7_isTurnable_23 rfl (lv_at hl 0 rfl) ?_
    refine gv_get (own := RX7) (D := (dC, dI)) (ci := 6) (C := RX7) (T := TX7) (N := 8) (v := .ref na) hx hb hts (by decide +kernel) hown hK hP 0 rfl rfl 6 (by decide) (hts (.fieldLink RX7 46 "NumeralCipher" "number" "LNumeralCipher$Natural;") (by decide +kernel)) rfl rfl dX7_isTurnable_24 ?_
    refine gv_callR (va_runU (As := [.ref ro, .ref to, .ref na]) (rest := []) ⟨hx, hb, hml, hown, hts⟩ (c_X2_takes l fw ro to na ) (va_cwA 3 hts gX7_isTurnable_X2_takes_u162X2 rfl rfl rfl (hE.nest (.declares ⟨"NumeralCipher$Way", "takes", "(LNumeralCipher$Row;LNumeralCipher$Bytes;LNumeralCipher$Natural;)Z"⟩) (by decide +kernel)) (by decide +kernel) ⟨Nat.le_of_ble_eq_true rfl, Nat.le_of_ble_eq_true rfl⟩) ⟨fun a U g mk q => q, va_recv hK hP (ci := 2) (q0 := 3) rfl rfl, fun U hU hW => ⟨rfl, trivial⟩⟩ rfl rfl hl.1 rfl (lv_room (Nat.le_of_ble_eq_true rfl)) dX7_isTurnable_27 ⟨Nat.zero_le _, Nat.zero_le _⟩).run ?_
    refine gv_if_eq (tgt := 37) hx hb dX7_isTurnable_30 (by decide) (by omega) (fun c_30 => ?_) (fun c_30 => ?_)
    ·
      exact absurd c_30 (by omega)
    ·
      refine lv_iconst (v := nI 1) hx hb dX7_isTurnable_33 (by decide) ?_
      refine gv_top (y := nI (if 2 ≤ n ∧ 1000000 ≤ bs ^ n then 1 else 0)) (congrArg nI (if_pos hq).symm) ?_
      refine lv_goto (tgt := 38) hx hb dX7_isTurnable_34 (by decide) ?_
      exact W.zret (v := (nI (if 2 ≤ n ∧ 1000000 ≤ bs ^ n then 1 else 0))) hx hb hr (by split <;> rfl) (fun t ht hW => ⟨⟨_, (k0, f0), rfl, rfl, gB_end ht hW hP hK hD⟩, hS.F ht⟩) hS.2.2 dX7_isTurnable_38

set_option maxHeartbeats 4000000 in
set_option maxRecDepth 100000 in
/-- isTurnable(1) -/
theorem c_X7_isTurnable_1 (l : Launch) (dC : Nat → ClassId) (dI : Nat → Nat → Nat) (cI : ClassId) (tS : Nat) (sz : Nat) (x : Nat) (bf : Nat) (kb : Nat) (to : Nat) (ro : Nat) (fw : Nat) (sw : Nat) (na : Nat) (wo : Nat) (rc : Nat) (tc : Nat) (nc : Nat) (n : Nat) (bs : Nat) (tn : Nat) (k0 : Nat) (ci2 : Nat) (tu : Nat) (lf : Nat) (rt : Nat) (f0 : Nat → Nat) (hn : n ≤ 64) (hb1 : 2 ≤ bs) (hb2 : bs ≤ 65536) (htn : tn ≤ 64) : Met l yX7_isTurnable wsX7_isTurnable ({ frames := 5, cells := 0, slots := 0, locals := 116 }) (gPe dC dI cI tS [.ref x, .int (nI 1)] [(x, .inr (6, [.ref bf, .ref kb, .ref to, .ref ro, .ref fw, .ref sw, .ref na, .ref wo])), (ro, .inr (4, [.ref rc, .int (nI n), .int (nI bs)])), (to, .inr (1, [.ref tc, .int (nI tn)])), (sw, .inr (5, [.ref ci2, .ref tu, .int (nI lf), .int (nI rt)])), (na, .inr (3, [.ref nc, .int (nI k0)])), (nc, .inl (cI, 17, .inl (gA f0)))] sz) (va_Qi (fun (r : Int32) (u : Nat × (Nat → Nat)) => r = (nI (if (2 ≤ n ∧ 1000000 ≤ bs ^ n) ∧ (tn = 7 ∧ bl (bs ^ (n - n / 2) - 1) ≤ 12) then 1 else 0))) (fun u t => gB dC dI cI (va_A [(x, .inr (6, [.ref bf, .ref kb, .ref to, .ref ro, .ref fw, .ref sw, .ref na, .ref wo])), (ro, .inr (4, [.ref rc, .int (nI n), .int (nI bs)])), (to, .inr (1, [.ref tc, .int (nI tn)])), (sw, .inr (5, [.ref ci2, .ref tu, .int (nI lf), .int (nI rt)])), (na, .inr (3, [.ref nc, .int (nI k0)])), (nc, .inl (cI, 17, .inl (gA f0)))] sz) [(x, .inr (6, [.ref bf, .ref kb, .ref to, .ref ro, .ref fw, .ref sw, .ref na, .ref wo])), (ro, .inr (4, [.ref rc, .int (nI n), .int (nI bs)])), (to, .inr (1, [.ref tc, .int (nI tn)])), (sw, .inr (5, [.ref ci2, .ref tu, .int (nI lf), .int (nI rt)])), (na, .inr (3, [.ref nc, .int (nI u.1)])), (nc, .inl (cI, 17, .inl (gA u.2)))] t) (va_A [(x, .inr (6, [.ref bf, .ref kb, .ref to, .ref ro, .ref fw, .ref sw, .ref na, .ref wo])), (ro, .inr (4, [.ref rc, .int (nI n), .int (nI bs)])), (to, .inr (1, [.ref tc, .int (nI tn)])), (sw, .inr (5, [.ref ci2, .ref tu, .int (nI lf), .int (nI rt)])), (na, .inr (3, [.ref nc, .int (nI k0)])), (nc, .inl (cI, 17, .inl (gA f0)))] sz)) 0 0 (va_A [(x, .inr (6, [.ref bf, .ref kb, .ref to, .ref ro, .ref fw, .ref sw, .ref na, .ref wo])), (ro, .inr (4, [.ref rc, .int (nI n), .int (nI bs)])), (to, .inr (1, [.ref tc, .int (nI tn)])), (sw, .inr (5, [.ref ci2, .ref tu, .int (nI lf), .int (nI rt)])), (na, .inr (3, [.ref nc, .int (nI k0)])), (nc, .inl (cI, 17, .inl (gA f0)))] sz) := by
  refine Met.ofW (cc := cX7_isTurnable) (maxL := 2) (ret := (some .boolean)) (by decide) rfl ?_
  intro p e s m args below meth c s₁ B9 hml hv
  obtain ⟨rfl, hsz, ⟨hP, hK, hD0⟩, hE⟩ := hv
  have hx := B9.exec
  have hb := B9.bytes
  have hr := B9.returns
  have hts := atoms_spec (ws := wsX7_isTurnable) B9.pre
  have hown : s.vm.findClass RX7 = some m.cls := findClass_of_methodNamed B9.named
  have hlocks := B9.notSynchronized
  subst hsz
  have hD := hD0.self (sz := s.heap.size)
  generalize hAe : va_A [(x, .inr (6, [.ref bf, .ref kb, .ref to, .ref ro, .ref fw, .ref sw, .ref na, .ref wo])), (ro, .inr (4, [.ref rc, .int (nI n), .int (nI bs)])), (to, .inr (1, [.ref tc, .int (nI tn)])), (sw, .inr (5, [.ref ci2, .ref tu, .int (nI lf), .int (nI rt)])), (na, .inr (3, [.ref nc, .int (nI k0)])), (nc, .inl (cI, 17, .inl (gA f0)))] s.heap.size = A at hD hE ⊢
  have hA : ∀ q : Nat, s.heap.size ≤ q → A q := fun q h => by rw [← hAe]; exact Or.inr h
  have hS : va_S A s.heap s.heap [] := va_S.rf
  have hl := lv_entry ([.ref x, .int (nI 1)]) (n := 2) (Nat.le_of_ble_eq_true rfl)
  rw [lg_entry_eq]
  generalize (lg_sl ([.ref x, .int (nI 1)]) ++ List.replicate (2 - (lg_sl ([.ref x, .int (nI 1)])).length) Slot.unset).toArray = ls at hl ⊢
  have hl : lv_has ls 2 [(0, .ref x), (1, .int (nI 1))] := hl
  refine lv_aload_n hx hb dX7_isTurnable_0 rfl (lv_at hl 0 rfl) ?_
  refine gv_get (own := RX7) (D := (dC, dI)) (ci := 6) (C := RX7) (T := TX7) (N := 8) (v := .ref ro) hx hb hts (by decide +kernel) hown hK hP 0 rfl rfl 3 (by decide) (hts (.fieldLink RX7 25 "NumeralCipher" "row" "LNumeralCipher$Row;") (by decide +kernel)) rfl rfl dX7_isTurnable_1 ?_
  have hPc := hP.sub (ws' := [(ro, .inr (4, [.ref rc, .int (nI n), .int (nI bs)]))]) [1] rfl
  have hDc := hD.sub (ws' := [(ro, .inr (4, [.ref rc, .int (nI n), .int (nI bs)]))]) [1] (by decide) rfl
  refine gv_callR (W.runV (As := []) (rest := []) ⟨hx, hb, hml, hown, hts⟩ (c_X4_isLongEnough l dC dI cI s.heap.size ro rc n bs (by omega) (by omega) (by omega)) (cwV 0 hts gX7_isTurnable_X4_isLongEnough rfl rfl rfl (by decide +kernel) ⟨Nat.le_of_ble_eq_true rfl, Nat.le_of_ble_eq_true rfl⟩) ⟨gPc_blind, va_recv hK hPc (ci := 4) (q0 := 0) rfl rfl, gPc_pre hPc hK hDc⟩ rfl rfl hl.1 rfl (lv_room (Nat.le_of_ble_eq_true rfl)) dX7_isTurnable_4 ⟨Nat.zero_le _, Nat.zero_le _⟩) ?_
  clear hPc hDc
  refine gv_if_eq (tgt := 37) hx hb dX7_isTurnable_7 (by decide) (by split <;> decide) (fun c_7 => ?_) (fun c_7 => ?_)
  ·
    have hq : ¬ (2 ≤ n ∧ 1000000 ≤ bs ^ n) := fun q9 => absurd ((if_pos q9).symm.trans c_7) (by decide)
    refine lv_iconst (v := nI 0) hx hb dX7_isTurnable_37 (by decide) ?_
    refine gv_top (y := nI (if (2 ≤ n ∧ 1000000 ≤ bs ^ n) ∧ (tn = 7 ∧ bl (bs ^ (n - n / 2) - 1) ≤ 12) then 1 else 0)) (congrArg nI (if_neg (fun q9 => hq q9.1)).symm) ?_
    exact W.zret (v := (nI (if (2 ≤ n ∧ 1000000 ≤ bs ^ n) ∧ (tn = 7 ∧ bl (bs ^ (n - n / 2) - 1) ≤ 12) then 1 else 0))) hx hb hr (by split <;> rfl) (fun t ht hW => ⟨⟨_, (k0, f0), rfl, rfl, gB_end ht hW hP hK hD⟩, hS.F ht⟩) hS.2.2 dX7_isTurnable_38
  ·
    have hq : 2 ≤ n ∧ 1000000 ≤ bs ^ n := Classical.byContradiction (fun q9 => c_7 (if_neg q9))
    refine lv_aload_n hx hb dX7_isTurnable_10 rfl (lv_at hl 0 rfl) ?_
    refine lv_iload_n hx hb dX7_isTurnable_11 rfl (lv_at hl 1 rfl) ?_
    have hPc := hP.sub (ws' := [(x, .inr (6, [.ref bf, .ref kb, .ref to, .ref ro, .ref fw, .ref sw, .ref na, .ref wo]))]) [0] rfl
    have hDc := hD.sub (ws' := [(x, .inr (6, [.ref bf, .ref kb, .ref to, .ref ro, .ref fw, .ref sw, .ref na, .ref wo]))]) [0] (by decide) rfl
    refine gv_callRf (W.runV (As := [.int (nI 1)]) (rest := []) ⟨hx, hb, hml, hown, hts⟩ (c_X7_wayOf_1 l dC dI cI s.heap.size x bf kb to ro fw sw na wo ) (cwV 1 hts gX7_isTurnable_X7_wayOf rfl rfl rfl (by decide +kernel) ⟨Nat.le_of_ble_eq_true rfl, Nat.le_of_ble_eq_true rfl⟩) ⟨gPc_blind, va_recv hK hPc (ci := 6) (q0 := 0) rfl rfl, gPc_pre hPc hK hDc⟩ rfl rfl hl.1 rfl (lv_room (Nat.le_of_ble_eq_true rfl)) dX7_isTurnable_12 ⟨Nat.zero_le _, Nat.zero_le _⟩) ?_
    clear hPc hDc
    refine lv_aload_n hx hb dX7_isTurnable_15 rfl (lv_at hl 0 rfl) ?_
    refine gv_get (own := RX7) (D := (dC, dI)) (ci := 6) (C := RX7) (T := TX7) (N := 8) (v := .ref ro) hx hb hts (by decide +kernel) hown hK hP 0 rfl rfl 3 (by decide) (hts (.fieldLink RX7 25 "NumeralCipher" "row" "LNumeralCipher$Row;") (by decide +kernel)) rfl rfl dX7_isTurnable_16 ?_
    refine lv_aload_n hx hb dX7_isTurnable_19 rfl (lv_at hl 0 rfl) ?_
    refine gv_get (own := RX7) (D := (dC, dI)) (ci := 6) (C := RX7) (T := TX7) (N := 8) (v := .ref to) hx hb hts (by decide +kernel) hown hK hP 0 rfl rfl 2 (by decide) (hts (.fieldLink RX7 19 "NumeralCipher" "tweakBytes" "LNumeralCipher$Bytes;") (by decide +kernel)) rfl rfl dX7_isTurnable_20 ?_
    refine lv_aload_n hx hb dX7_isTurnable_23 rfl (lv_at hl 0 rfl) ?_
    refine gv_get (own := RX7) (D := (dC, dI)) (ci := 6) (C := RX7) (T := TX7) (N := 8) (v := .ref na) hx hb hts (by decide +kernel) hown hK hP 0 rfl rfl 6 (by decide) (hts (.fieldLink RX7 46 "NumeralCipher" "number" "LNumeralCipher$Natural;") (by decide +kernel)) rfl rfl dX7_isTurnable_24 ?_
    have hPc := hP.sub (ws' := [(sw, .inr (5, [.ref ci2, .ref tu, .int (nI lf), .int (nI rt)])), (ro, .inr (4, [.ref rc, .int (nI n), .int (nI bs)])), (to, .inr (1, [.ref tc, .int (nI tn)])), (na, .inr (3, [.ref nc, .int (nI k0)])), (nc, .inl (cI, 17, .inl (gA f0)))]) [3, 1, 2, 4, 5] rfl
    have hDc := hD.sub (ws' := [(sw, .inr (5, [.ref ci2, .ref tu, .int (nI lf), .int (nI rt)])), (ro, .inr (4, [.ref rc, .int (nI n), .int (nI bs)])), (to, .inr (1, [.ref tc, .int (nI tn)])), (na, .inr (3, [.ref nc, .int (nI k0)])), (nc, .inl (cI, 17, .inl (gA f0)))]) [3, 1, 2, 4, 5] (by decide) rfl
    have hFc := va_free (wc := [(sw, .inr (5, [.ref ci2, .ref tu, .int (nI lf), .int (nI rt)])), (ro, .inr (4, [.ref rc, .int (nI n), .int (nI bs)])), (to, .inr (1, [.ref tc, .int (nI tn)])), (na, .inr (3, [.ref nc, .int (nI k0)])), (nc, .inl (cI, 17, .inl (gA f0)))]) hD hS hA [3, 1, 2, 4, 5] rfl
    refine va_calli (va_runU (As := [.ref ro, .ref to, .ref na]) (rest := []) ⟨hx, hb, hml, hown, hts⟩ (c_X5_takes l dC dI cI tS s.heap.size sw ci2 tu lf rt ro rc n bs to tc tn na nc k0 f0 (by omega) (by omega) (by omega) (by omega)) (va_cwA 3 hts gX7_isTurnable_X5_takes_u162X5 rfl rfl rfl (hE.nest (.declares ⟨"NumeralCipher$Way", "takes", "(LNumeralCipher$Row;LNumeralCipher$Bytes;LNumeralCipher$Natural;)Z"⟩) (by decide +kernel)) (by decide +kernel) ⟨Nat.le_of_ble_eq_true rfl, Nat.le_of_ble_eq_true rfl⟩) ⟨gPe_blind, va_recv hK hPc (ci := 5) (q0 := 0) rfl rfl, gPe_pre hPc hK hDc (hE.at hS) hFc⟩ rfl rfl hl.1 rfl (lv_room (Nat.le_of_ble_eq_true rfl)) dX7_isTurnable_27 ⟨Nat.zero_le _, Nat.zero_le _⟩) hS (fun q _ h => hFc q h) hFc (fun r9 u8 t8 H1 locs ht hvm hw hB hz1 hk1 hS => ?_)
    obtain ⟨f9_1, m9_1⟩ := u8
    try dsimp only at hw hB
    obtain ⟨hP, hD⟩ := gB_join (wr := [(x, .inr (6, [.ref bf, .ref kb, .ref to, .ref ro, .ref fw, .ref sw, .ref na, .ref wo]))]) (w2 := [(x, .inr (6, [.ref bf, .ref kb, .ref to, .ref ro, .ref fw, .ref sw, .ref na, .ref wo])), (sw, .inr (5, [.ref ci2, .ref tu, .int (nI lf), .int (nI rt)])), (ro, .inr (4, [.ref rc, .int (nI n), .int (nI bs)])), (to, .inr (1, [.ref tc, .int (nI tn)])), (na, .inr (3, [.ref nc, .int (nI m9_1)])), (nc, .inl (cI, 17, .inl (gA f9_1)))]) hP hD [3, 1, 2, 4, 5] [0] rfl rfl (by decide) (by decide) hk1 hFc ht hB rfl
    clear hk1 hz1 ht hB hvm hPc hDc hFc
    generalize H1 = H at hP hS ⊢
    subst hw
    refine gv_if_eq (tgt := 37) hx hb dX7_isTurnable_30 (by decide) (by split <;> decide) (fun c_30 => ?_) (fun c_30 => ?_)
    ·
      have hq2 : ¬ (tn = 7 ∧ bl (bs ^ (n - n / 2) - 1) ≤ 12) := fun q9 => absurd ((if_pos q9).symm.trans c_30) (by decide)
      refine lv_iconst (v := nI 0) hx hb dX7_isTurnable_37 (by decide) ?_
      refine gv_top (y := nI (if (2 ≤ n ∧ 1000000 ≤ bs ^ n) ∧ (tn = 7 ∧ bl (bs ^ (n - n / 2) - 1) ≤ 12) then 1 else 0)) (congrArg nI (if_neg (fun q9 => hq2 q9.2)).symm) ?_
      exact W.zret (v := (nI (if (2 ≤ n ∧ 1000000 ≤ bs ^ n) ∧ (tn = 7 ∧ bl (bs ^ (n - n / 2) - 1) ≤ 12) then 1 else 0))) hx hb hr (by split <;> rfl) (fun t ht hW => ⟨⟨_, (m9_1, f9_1), rfl, rfl, gB_end ht hW (hP.sub [0, 2, 3, 1, 4, 5] rfl) hK (hD.sub [0, 2, 3, 1, 4, 5] (by decide) rfl)⟩, hS.F ht⟩) hS.2.2 dX7_isTurnable_38
    ·
      have hq2 : tn = 7 ∧ bl (bs ^ (n - n / 2) - 1) ≤ 12 := Classical.byContradiction (fun q9 => c_30 (if_neg q9))
      refine lv_iconst (v := nI 1) hx hb dX7_isTurnable_33 (by decide) ?_
      refine gv_top (y := nI (if (2 ≤ n ∧ 1000000 ≤ bs ^ n) ∧ (tn = 7 ∧ bl (bs ^ (n - n / 2) - 1) ≤ 12) then 1 else 0)) (congrArg nI (if_pos ⟨hq, hq2⟩).symm) ?_
      refine lv_goto (tgt := 38) hx hb dX7_isTurnable_34 (by decide) ?_
      exact W.zret (v := (nI (if (2 ≤ n ∧ 1000000 ≤ bs ^ n) ∧ (tn = 7 ∧ bl (bs ^ (n - n / 2) - 1) ≤ 12) then 1 else 0))) hx hb hr (by split <;> rfl) (fun t ht hW => ⟨⟨_, (m9_1, f9_1), rfl, rfl, gB_end ht hW (hP.sub [0, 2, 3, 1, 4, 5] rfl) hK (hD.sub [0, 2, 3, 1, 4, 5] (by decide) rfl)⟩, hS.F ht⟩) hS.2.2 dX7_isTurnable_38
