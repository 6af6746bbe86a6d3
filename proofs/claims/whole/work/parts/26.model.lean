set_option maxHeartbeats 4000000 in
set_option maxRecDepth 100000 in
/-- in: 1 -/
theorem c_X8_in_1 (l : Launch) (v : Int64) (a : Int64) (b : Int64) (h1 : ¬ v < a) (h2 : ¬ b < v) : Met l yX8_in wsX8_in ({ frames := 0, cells := 0, slots := 0, locals := 0 }) (va_Pc [.long v, .long a, .long b] (fun _ => True)) (QcRead (nI 1)) 0 0 (fun _ => False) := by
  refine Met.ofW (cc := cX8_in) (maxL := 6) (ret := (some .boolean)) (by decide) rfl ?_
  intro p e s m args below meth c s₁ B9 hml hv
  obtain ⟨rfl, -⟩ := hv
  have hx := B9.exec
  have hb := B9.bytes
  have hr := B9.returns
  have hts := atoms_spec (ws := wsX8_in) B9.pre
  have hown : s.vm.findClass RX8 = some m.cls := findClass_of_methodNamed B9.named
  have hlocks := B9.notSynchronized
  have hl := lv_entry ([.long v, .long a, .long b]) (n := 6) (Nat.le_of_ble_eq_true rfl)
  rw [lg_entry_eq]
  generalize (lg_sl ([.long v, .long a, .long b]) ++ List.replicate (6 - (lg_sl ([.long v, .long a, .long b])).length) Slot.unset).toArray = ls at hl ⊢
  have hl : lv_has ls 6 [(0, .long v), (2, .long a), (4, .long b)] := hl
  refine lv_lload_n hx hb dX8_in_0 rfl (lv_at hl 0 rfl) ?_
  refine lv_lload_n hx hb dX8_in_1 rfl (lv_at hl 1 rfl) ?_
  refine W.lcmp hx hb dX8_in_2 (lv_if_lt (tgt := 17) hx hb dX8_in_3 (by decide) (fun c_2 => ?_) (fun c_2 => ?_))
  ·
    exact absurd ((lg_cmp_lt _ _).mp c_2) h1
  ·
    refine lv_lload_n hx hb dX8_in_6 rfl (lv_at hl 0 rfl) ?_
    refine lv_lload hx hb dX8_in_7 (lv_at hl 2 rfl) ?_
    refine W.lcmp hx hb dX8_in_9 (lv_if_gt (tgt := 17) hx hb dX8_in_10 (by decide) (fun c_9 => ?_) (fun c_9 => ?_))
    ·
      exact absurd ((lg_cmp_gt _ _).mp c_9) h2
    ·
      refine lv_iconst (v := nI 1) hx hb dX8_in_13 (by decide) ?_
      refine lv_goto (tgt := 18) hx hb dX8_in_14 (by decide) ?_
      exact W.zret (v := (nI 1)) hx hb hr rfl (fun t ht hW => ⟨rfl, ht⟩) (fun q h => by cases h) dX8_in_18

set_option maxHeartbeats 4000000 in
set_option maxRecDepth 100000 in
/-- in: 0 -/
theorem c_X8_in_0 (l : Launch) (v : Int64) (a : Int64) (b : Int64) (h : v < a ∨ b < v) : Met l yX8_in wsX8_in ({ frames := 0, cells := 0, slots := 0, locals := 0 }) (va_Pc [.long v, .long a, .long b] (fun _ => True)) (QcRead (nI 0)) 0 0 (fun _ => False) := by
  refine Met.ofW (cc := cX8_in) (maxL := 6) (ret := (some .boolean)) (by decide) rfl ?_
  intro p e s m args below meth c s₁ B9 hml hv
  obtain ⟨rfl, -⟩ := hv
  have hx := B9.exec
  have hb := B9.bytes
  have hr := B9.returns
  have hts := atoms_spec (ws := wsX8_in) B9.pre
  have hown : s.vm.findClass RX8 = some m.cls := findClass_of_methodNamed B9.named
  have hlocks := B9.notSynchronized
  have hl := lv_entry ([.long v, .long a, .long b]) (n := 6) (Nat.le_of_ble_eq_true rfl)
  rw [lg_entry_eq]
  generalize (lg_sl ([.long v, .long a, .long b]) ++ List.replicate (6 - (lg_sl ([.long v, .long a, .long b])).length) Slot.unset).toArray = ls at hl ⊢
  have hl : lv_has ls 6 [(0, .long v), (2, .long a), (4, .long b)] := hl
  refine lv_lload_n hx hb dX8_in_0 rfl (lv_at hl 0 rfl) ?_
  refine lv_lload_n hx hb dX8_in_1 rfl (lv_at hl 1 rfl) ?_
  refine W.lcmp hx hb dX8_in_2 (lv_if_lt (tgt := 17) hx hb dX8_in_3 (by decide) (fun c_2 => ?_) (fun c_2 => ?_))
  ·
    refine lv_iconst (v := nI 0) hx hb dX8_in_17 (by decide) ?_
    exact W.zret (v := (nI 0)) hx hb hr rfl (fun t ht hW => ⟨rfl, ht⟩) (fun q h => by cases h) dX8_in_18
  ·
    refine lv_lload_n hx hb dX8_in_6 rfl (lv_at hl 0 rfl) ?_
    refine lv_lload hx hb dX8_in_7 (lv_at hl 2 rfl) ?_
    refine W.lcmp hx hb dX8_in_9 (lv_if_gt (tgt := 17) hx hb dX8_in_10 (by decide) (fun c_9 => ?_) (fun c_9 => ?_))
    ·
      refine lv_iconst (v := nI 0) hx hb dX8_in_17 (by decide) ?_
      exact W.zret (v := (nI 0)) hx hb hr rfl (fun t ht hW => ⟨rfl, ht⟩) (fun q h => by cases h) dX8_in_18
    ·
      exact (h.elim (fun q => c_2 ((lg_cmp_lt _ _).mpr q)) (fun q => c_9 ((lg_cmp_gt _ _).mpr q))).elim

set_option maxHeartbeats 4000000 in
set_option maxRecDepth 100000 in
/-- refuses(false, k) -/
theorem c_X8_refuses_0 (l : Launch) (dC : Nat → ClassId) (dI : Nat → Nat → Nat) (cI : ClassId) (sz : Nat) (mo : Nat) (abuf : Nat) (akey : Nat) (atwk : Nat) (arow : Nat) (abox : Nat) (awrd : Nat) (ablk : Nat) (amov : Nat) (ahA : Nat) (ahB : Nat) (ahC : Nat) (anum : Nat) (amsg : Nat) (astr : Nat) (th : Nat) (by_ : Nat) (ks : Nat) (ts : Nat) (rx : Nat) (mn : Nat) (rd : Nat) (za : Nat) (zb : Nat) (kk : Nat) : Met l yX8_refuses wsX8_refuses ({ frames := 0, cells := 0, slots := 0, locals := 0 }) (gPc dC dI cI [.ref mo, .int (nI 0), .int (nI kk)] [(mo, .inr (7, [.int (nI 0), .int (nI by_), .ref abuf, .int (nI ks), .ref akey, .int (nI ts), .ref atwk, .int (nI rx), .int (nI mn), .ref arow, .ref abox, .ref awrd, .int (nI rd), .ref ablk, .ref amov, .int (nI za), .int (nI zb), .ref ahA, .ref ahB, .ref ahC, .ref anum, .ref amsg, .ref astr]))] sz) (QcRead (nI 0)) 0 0 (fun _ => False) := by
  refine Met.ofW (cc := cX8_refuses) (maxL := 3) (ret := (some .boolean)) (by decide) rfl ?_
  intro p e s m args below meth c s₁ B9 hml hv
  obtain ⟨rfl, hsz, ⟨hP, hK, hD0⟩⟩ := hv
  have hx := B9.exec
  have hb := B9.bytes
  have hr := B9.returns
  have hts := atoms_spec (ws := wsX8_refuses) B9.pre
  have hown : s.vm.findClass RX8 = some m.cls := findClass_of_methodNamed B9.named
  have hlocks := B9.notSynchronized
  subst hsz
  have hD := hD0.self (sz := s.heap.size)
  generalize hAe : va_A [(mo, .inr (7, [.int (nI 0), .int (nI by_), .ref abuf, .int (nI ks), .ref akey, .int (nI ts), .ref atwk, .int (nI rx), .int (nI mn), .ref arow, .ref abox, .ref awrd, .int (nI rd), .ref ablk, .ref amov, .int (nI za), .int (nI zb), .ref ahA, .ref ahB, .ref ahC, .ref anum, .ref amsg, .ref astr]))] s.heap.size = A at hD
  have hA : ∀ q : Nat, s.heap.size ≤ q → A q := fun q h => by rw [← hAe]; exact Or.inr h
  have hS : va_S A s.heap s.heap [] := va_S.rf
  have hl := lv_entry ([.ref mo, .int (nI 0), .int (nI kk)]) (n := 3) (Nat.le_of_ble_eq_true rfl)
  rw [lg_entry_eq]
  generalize (lg_sl ([.ref mo, .int (nI 0), .int (nI kk)]) ++ List.replicate (3 - (lg_sl ([.ref mo, .int (nI 0), .int (nI kk)])).length) Slot.unset).toArray = ls at hl ⊢
  have hl : lv_has ls 3 [(0, .ref mo), (1, .int (nI 0)), (2, .int (nI kk))] := hl
  refine lv_aload_n hx hb dX8_refuses_0 rfl (lv_at hl 0 rfl) ?_
  refine gv_get (own := RX8) (D := (dC, dI)) (ci := 7) (C := RX8) (T := TX8) (N := 23) (v := .int (nI 0)) hx hb hts (by decide +kernel) hown hK hP 0 rfl rfl 0 (by decide) (hts (.fieldLink RX8 63 "NumeralCipherModel" "thrown" "I") (by decide +kernel)) rfl rfl dX8_refuses_1 ?_
  refine gv_if_ne (tgt := 16) hx hb dX8_refuses_4 (by decide) (by omega) (fun c_4 => ?_) (fun c_4 => ?_)
  ·
    exact absurd c_4 (by decide)
  ·
    refine lv_iload_n hx hb dX8_refuses_7 rfl (lv_at hl 1 rfl) ?_
    refine gv_if_eq (tgt := 16) hx hb dX8_refuses_8 (by decide) (by omega) (fun c_8 => ?_) (fun c_8 => ?_)
    ·
      refine lv_aload_n hx hb dX8_refuses_16 rfl (lv_at hl 0 rfl) ?_
      refine gv_get (own := RX8) (D := (dC, dI)) (ci := 7) (C := RX8) (T := TX8) (N := 23) (v := .int (nI 0)) hx hb hts (by decide +kernel) hown hK hP 0 rfl rfl 0 (by decide) (hts (.fieldLink RX8 63 "NumeralCipherModel" "thrown" "I") (by decide +kernel)) rfl rfl dX8_refuses_17 ?_
      refine gv_if_le (tgt := 27) hx hb dX8_refuses_20 (by decide) (by omega) (fun c_20 => ?_) (fun c_20 => ?_)
      ·
        refine lv_iconst (v := nI 0) hx hb dX8_refuses_27 (by decide) ?_
        exact W.zret (v := (nI 0)) hx hb hr rfl (fun t ht hW => ⟨rfl, ht⟩) (fun q h => by cases h) dX8_refuses_28
      ·
        exact absurd c_20 (by decide)
    ·
      exact absurd c_8 (by decide)

set_option maxHeartbeats 4000000 in
set_option maxRecDepth 100000 in
/-- refuses(true, k) -/
theorem c_X8_refuses_1 (l : Launch) (dC : Nat → ClassId) (dI : Nat → Nat → Nat) (cI : ClassId) (sz : Nat) (mo : Nat) (abuf : Nat) (akey : Nat) (atwk : Nat) (arow : Nat) (abox : Nat) (awrd : Nat) (ablk : Nat) (amov : Nat) (ahA : Nat) (ahB : Nat) (ahC : Nat) (anum : Nat) (amsg : Nat) (astr : Nat) (th : Nat) (by_ : Nat) (ks : Nat) (ts : Nat) (rx : Nat) (mn : Nat) (rd : Nat) (za : Nat) (zb : Nat) (kk : Nat) (hk1 : 1 ≤ kk) (hk2 : kk ≤ 2) : Met l yX8_refuses wsX8_refuses ({ frames := 0, cells := 0, slots := 0, locals := 0 }) (gPc dC dI cI [.ref mo, .int (nI 1), .int (nI kk)] [(mo, .inr (7, [.int (nI 0), .int (nI by_), .ref abuf, .int (nI ks), .ref akey, .int (nI ts), .ref atwk, .int (nI rx), .int (nI mn), .ref arow, .ref abox, .ref awrd, .int (nI rd), .ref ablk, .ref amov, .int (nI za), .int (nI zb), .ref ahA, .ref ahB, .ref ahC, .ref anum, .ref amsg, .ref astr]))] sz) (va_Qi (fun (r : Int32) (_u : Unit) => r = (nI 1)) (fun _u t => gB dC dI cI (va_A [(mo, .inr (7, [.int (nI 0), .int (nI by_), .ref abuf, .int (nI ks), .ref akey, .int (nI ts), .ref atwk, .int (nI rx), .int (nI mn), .ref arow, .ref abox, .ref awrd, .int (nI rd), .ref ablk, .ref amov, .int (nI za), .int (nI zb), .ref ahA, .ref ahB, .ref ahC, .ref anum, .ref amsg, .ref astr]))] sz) [(mo, .inr (7, [.int (nI kk), .int (nI by_), .ref abuf, .int (nI ks), .ref akey, .int (nI ts), .ref atwk, .int (nI rx), .int (nI mn), .ref arow, .ref abox, .ref awrd, .int (nI rd), .ref ablk, .ref amov, .int (nI za), .int (nI zb), .ref ahA, .ref ahB, .ref ahC, .ref anum, .ref amsg, .ref astr]))] t) (va_A [(mo, .inr (7, [.int (nI 0), .int (nI by_), .ref abuf, .int (nI ks), .ref akey, .int (nI ts), .ref atwk, .int (nI rx), .int (nI mn), .ref arow, .ref abox, .ref awrd, .int (nI rd), .ref ablk, .ref amov, .int (nI za), .int (nI zb), .ref ahA, .ref ahB, .ref ahC, .ref anum, .ref amsg, .ref astr]))] sz)) 0 0 (va_A [(mo, .inr (7, [.int (nI 0), .int (nI by_), .ref abuf, .int (nI ks), .ref akey, .int (nI ts), .ref atwk, .int (nI rx), .int (nI mn), .ref arow, .ref abox, .ref awrd, .int (nI rd), .ref ablk, .ref amov, .int (nI za), .int (nI zb), .ref ahA, .ref ahB, .ref ahC, .ref anum, .ref amsg, .ref astr]))] sz) := by
  refine Met.ofW (cc := cX8_refuses) (maxL := 3) (ret := (some .boolean)) (by decide) rfl ?_
  intro p e s m args below meth c s₁ B9 hml hv
  obtain ⟨rfl, hsz, ⟨hP, hK, hD0⟩⟩ := hv
  have hx := B9.exec
  have hb := B9.bytes
  have hr := B9.returns
  have hts := atoms_spec (ws := wsX8_refuses) B9.pre
  have hown : s.vm.findClass RX8 = some m.cls := findClass_of_methodNamed B9.named
  have hlocks := B9.notSynchronized
  subst hsz
  have hD := hD0.self (sz := s.heap.size)
  generalize hAe : va_A [(mo, .inr (7, [.int (nI 0), .int (nI by_), .ref abuf, .int (nI ks), .ref akey, .int (nI ts), .ref atwk, .int (nI rx), .int (nI mn), .ref arow, .ref abox, .ref awrd, .int (nI rd), .ref ablk, .ref amov, .int (nI za), .int (nI zb), .ref ahA, .ref ahB, .ref ahC, .ref anum, .ref amsg, .ref astr]))] s.heap.size = A at hD ⊢
  have hA : ∀ q : Nat, s.heap.size ≤ q → A q := fun q h => by rw [← hAe]; exact Or.inr h
  have hS : va_S A s.heap s.heap [] := va_S.rf
  have hl := lv_entry ([.ref mo, .int (nI 1), .int (nI kk)]) (n := 3) (Nat.le_of_ble_eq_true rfl)
  rw [lg_entry_eq]
  generalize (lg_sl ([.ref mo, .int (nI 1), .int (nI kk)]) ++ List.replicate (3 - (lg_sl ([.ref mo, .int (nI 1), .int (nI kk)])).length) Slot.unset).toArray = ls at hl ⊢
  have hl : lv_has ls 3 [(0, .ref mo), (1, .int (nI 1)), (2, .int (nI kk))] := hl
  refine lv_aload_n hx hb dX8_refuses_0 rfl (lv_at hl 0 rfl) ?_
  refine gv_get (own := RX8) (D := (dC, dI)) (ci := 7) (C := RX8) (T := TX8) (N := 23) (v := .int (nI 0)) hx hb hts (by decide +kernel) hown hK hP 0 rfl rfl 0 (by decide) (hts (.fieldLink RX8 63 "NumeralCipherModel" "thrown" "I") (by decide +kernel)) rfl rfl dX8_refuses_1 ?_
  refine gv_if_ne (tgt := 16) hx hb dX8_refuses_4 (by decide) (by omega) (fun c_4 => ?_) (fun c_4 => ?_)
  ·
    exact absurd c_4 (by decide)
  ·
    refine lv_iload_n hx hb dX8_refuses_7 rfl (lv_at hl 1 rfl) ?_
    refine gv_if_eq (tgt := 16) hx hb dX8_refuses_8 (by decide) (by omega) (fun c_8 => ?_) (fun c_8 => ?_)
    ·
      exact absurd c_8 (by decide)
    ·
      refine lv_aload_n hx hb dX8_refuses_11 rfl (lv_at hl 0 rfl) ?_
      refine lv_iload_n hx hb dX8_refuses_12 rfl (lv_at hl 2 rfl) ?_
      refine gv_put (own := RX8) (D := (dC, dI)) (ci := 7) (C := RX8) (T := TX8) (N := 23) (ws' := [(mo, .inr (7, [.int (nI kk), .int (nI by_), .ref abuf, .int (nI ks), .ref akey, .int (nI ts), .ref atwk, .int (nI rx), .int (nI mn), .ref arow, .ref abox, .ref awrd, .int (nI rd), .ref ablk, .ref amov, .int (nI za), .int (nI zb), .ref ahA, .ref ahB, .ref ahC, .ref anum, .ref amsg, .ref astr]))]) hx hb hts (by decide +kernel) tyX8 tyX8_ok nmX8 hown hK hP hD hS 0 rfl rfl 0 (by decide) (hts (.fieldLink RX8 63 "NumeralCipherModel" "thrown" "I") (by decide +kernel)) rfl rfl (by decide +kernel) (Nat.le_of_ble_eq_true rfl) rfl dX8_refuses_13 (fun H locs hP hD hS => ?_)
      refine lv_aload_n hx hb dX8_refuses_16 rfl (lv_at hl 0 rfl) ?_
      refine gv_get (own := RX8) (D := (dC, dI)) (ci := 7) (C := RX8) (T := TX8) (N := 23) (v := .int (nI kk)) hx hb hts (by decide +kernel) hown hK hP 0 rfl rfl 0 (by decide) (hts (.fieldLink RX8 63 "NumeralCipherModel" "thrown" "I") (by decide +kernel)) rfl rfl dX8_refuses_17 ?_
      refine gv_if_le (tgt := 27) hx hb dX8_refuses_20 (by decide) (by omega) (fun c_20 => ?_) (fun c_20 => ?_)
      ·
        exact absurd c_20 (by omega)
      ·
        refine lv_iconst (v := nI 1) hx hb dX8_refuses_23 (by decide) ?_
        refine lv_goto (tgt := 28) hx hb dX8_refuses_24 (by decide) ?_
        exact W.zret (v := (nI 1)) hx hb hr rfl (fun t ht hW => ⟨⟨_, (), rfl, rfl, gB_end ht hW hP hK hD⟩, hS.F ht⟩) hS.2.2 dX8_refuses_28

set_option maxHeartbeats 4000000 in
set_option maxRecDepth 100000 in
/-- canTurn(0) -/
theorem c_X8_canTurn_0 (l : Launch) (dC : Nat → ClassId) (dI : Nat → Nat → Nat) (cI : ClassId) (sz : Nat) (mo : Nat) (abuf : Nat) (akey : Nat) (atwk : Nat) (arow : Nat) (abox : Nat) (awrd : Nat) (ablk : Nat) (amov : Nat) (ahA : Nat) (ahB : Nat) (ahC : Nat) (anum : Nat) (amsg : Nat) (astr : Nat) (th : Nat) (by_ : Nat) (ks : Nat) (ts : Nat) (rx : Nat) (mn : Nat) (rd : Nat) (za : Nat) (zb : Nat) (c0 : Nat → Nat) (u0 : Nat → Nat) (hr1 : 2 ≤ rx) (hr2 : rx ≤ 65536) (hm2 : mn ≤ 64) (hts7 : ts ≤ 64) : Met l yX8_canTurn wsX8_canTurn ({ frames := 0, cells := 0, slots := 0, locals := 0 }) (gPc dC dI cI [.ref mo, .int (nI 0)] [(mo, .inr (7, [.int (nI th), .int (nI by_), .ref abuf, .int (nI ks), .ref akey, .int (nI ts), .ref atwk, .int (nI rx), .int (nI mn), .ref arow, .ref abox, .ref awrd, .int (nI rd), .ref ablk, .ref amov, .int (nI za), .int (nI zb), .ref ahA, .ref ahB, .ref ahC, .ref anum, .ref amsg, .ref astr])), (ahC, .inl (cI, 64, .inl (gA c0))), (anum, .inl (cI, 128, .inl (gA u0)))] sz) (va_Qi (fun (r : Int32) (u : (Nat → Nat) × (Nat → Nat)) => r = (nI (if 2 ≤ mn ∧ 1000000 ≤ rx ^ mn then 1 else 0))) (fun u t => gB dC dI cI (va_A [(mo, .inr (7, [.int (nI th), .int (nI by_), .ref abuf, .int (nI ks), .ref akey, .int (nI ts), .ref atwk, .int (nI rx), .int (nI mn), .ref arow, .ref abox, .ref awrd, .int (nI rd), .ref ablk, .ref amov, .int (nI za), .int (nI zb), .ref ahA, .ref ahB, .ref ahC, .ref anum, .ref amsg, .ref astr])), (ahC, .inl (cI, 64, .inl (gA c0))), (anum, .inl (cI, 128, .inl (gA u0)))] sz) [(mo, .inr (7, [.int (nI th), .int (nI by_), .ref abuf, .int (nI ks), .ref akey, .int (nI ts), .ref atwk, .int (nI rx), .int (nI mn), .ref arow, .ref abox, .ref awrd, .int (nI rd), .ref ablk, .ref amov, .int (nI za), .int (nI zb), .ref ahA, .ref ahB, .ref ahC, .ref anum, .ref amsg, .ref astr])), (ahC, .inl (cI, 64, .inl (gA u.1))), (anum, .inl (cI, 128, .inl (gA u.2)))] t) (va_A [(mo, .inr (7, [.int (nI th), .int (nI by_), .ref abuf, .int (nI ks), .ref akey, .int (nI ts), .ref atwk, .int (nI rx), .int (nI mn), .ref arow, .ref abox, .ref awrd, .int (nI rd), .ref ablk, .ref amov, .int (nI za), .int (nI zb), .ref ahA, .ref ahB, .ref ahC, .ref anum, .ref amsg, .ref astr])), (ahC, .inl (cI, 64, .inl (gA c0))), (anum, .inl (cI, 128, .inl (gA u0)))] sz)) 0 0 (va_A [(mo, .inr (7, [.int (nI th), .int (nI by_), .ref abuf, .int (nI ks), .ref akey, .int (nI ts), .ref atwk, .int (nI rx), .int (nI mn), .ref arow, .ref abox, .ref awrd, .int (nI rd), .ref ablk, .ref amov, .int (nI za), .int (nI zb), .ref ahA, .ref ahB, .ref ahC, .ref anum, .ref amsg, .ref astr])), (ahC, .inl (cI, 64, .inl (gA c0))), (anum, .inl (cI, 128, .inl (gA u0)))] sz) := by
  refine Met.ofW (cc := cX8_canTurn) (maxL := 5) (ret := (some .boolean)) (by decide) rfl ?_
  intro p e s m args below meth c s₁ B9 hml hv
  obtain ⟨rfl, hsz, ⟨hP, hK, hD0⟩⟩ := hv
  have hx := B9.exec
  have hb := B9.bytes
  have hr := B9.returns
  have hts := atoms_spec (ws := wsX8_canTurn) B9.pre
  have hown : s.vm.findClass RX8 = some m.cls := findClass_of_methodNamed B9.named
  have hlocks := B9.notSynchronized
  subst hsz
  have hD := hD0.self (sz := s.heap.size)
  generalize hAe : va_A [(mo, .inr (7, [.int (nI th), .int (nI by_), .ref abuf, .int (nI ks), .ref akey, .int (nI ts), .ref atwk, .int (nI rx), .int (nI mn), .ref arow, .ref abox, .ref awrd, .int (nI rd), .ref ablk, .ref amov, .int (nI za), .int (nI zb), .ref ahA, .ref ahB, .ref ahC, .ref anum, .ref amsg, .ref astr])), (ahC, .inl (cI, 64, .inl (gA c0))), (anum, .inl (cI, 128, .inl (gA u0)))] s.heap.size = A at hD ⊢
  have hA : ∀ q : Nat, s.heap.size ≤ q → A q := fun q h => by rw [← hAe]; exact Or.inr h
  have hS : va_S A s.heap s.heap [] := va_S.rf
  have hl := lv_entry ([.ref mo, .int (nI 0)]) (n := 5) (Nat.le_of_ble_eq_true rfl)
  rw [lg_entry_eq]
  generalize (lg_sl ([.ref mo, .int (nI 0)]) ++ List.replicate (5 - (lg_sl ([.ref mo, .int (nI 0)])).length) Slot.unset).toArray = ls at hl ⊢
  have hl : lv_has ls 5 [(0, .ref mo), (1, .int (nI 0))] := hl
  refine lv_lconst (v := lN 1) hx hb dX8_canTurn_0 (by decide) ?_
  refine gv_topl (y := lN (rx ^ 0)) (congrArg lN (Nat.pow_zero rx).symm) ?_
  refine lv_lstore_n (lv' := [(2, .long (lN (rx ^ 0))), (0, .ref mo), (1, .int (nI 0))]) hx hb dX8_canTurn_1 rfl hl (by decide) rfl (fun ls hl => ?_)
  refine gw_lab (G := fun R args Q => ∀ (rw_ : Nat), (rw_ < 9223372036854775808) → (1000000 ≤ rw_ ↔ 1000000 ≤ rx ^ mn) → ∀ (H : Heap) (locs : List Loc), va_P (dC, dI) vwCl [(mo, .inr (7, [.int (nI th), .int (nI by_), .ref abuf, .int (nI ks), .ref akey, .int (nI ts), .ref atwk, .int (nI rx), .int (nI mn), .ref arow, .ref abox, .ref awrd, .int (nI rd), .ref ablk, .ref amov, .int (nI za), .int (nI zb), .ref ahA, .ref ahB, .ref ahC, .ref anum, .ref amsg, .ref astr])), (ahC, .inl (cI, 64, .inl (gA c0))), (anum, .inl (cI, 128, .inl (gA u0)))] H → va_D A [(mo, .inr (7, [.int (nI th), .int (nI by_), .ref abuf, .int (nI ks), .ref akey, .int (nI ts), .ref atwk, .int (nI rx), .int (nI mn), .ref arow, .ref abox, .ref awrd, .int (nI rd), .ref ablk, .ref amov, .int (nI za), .int (nI zb), .ref ahA, .ref ahB, .ref ahC, .ref anum, .ref amsg, .ref astr])), (ahC, .inl (cI, 64, .inl (gA c0))), (anum, .inl (cI, 128, .inl (gA u0)))] → va_S A s.heap H locs → ∀ (ls : Array Slot), lv_has ls 5 [(2, .long (lN rw_)), (0, .ref mo), (1, .int (nI 0))] → W p l e R s m args below meth c H locs 0 0 Q (F0 m 36 ls [])) ?_ (fun L36 => ?_)
  ·
    intro rw_ hlt hiff H locs hP hD hS ls hl
    refine lv_aload_n hx hb dX8_canTurn_36 rfl (lv_at hl 1 rfl) ?_
    refine gv_get (own := RX8) (D := (dC, dI)) (ci := 7) (C := RX8) (T := TX8) (N := 23) (v := .int (nI mn)) hx hb hts (by decide +kernel) hown hK hP 0 rfl rfl 8 (by decide) (hts (.fieldLink RX8 89 "NumeralCipherModel" "many" "I") (by decide +kernel)) rfl rfl dX8_canTurn_37 ?_
    refine lv_iconst (v := nI 2) hx hb dX8_canTurn_40 (by decide) ?_
    refine gv_icmp_lt (tgt := 52) hx hb dX8_canTurn_41 (by decide) (by omega) (by omega) (fun c_41 => ?_) (fun c_41 => ?_)
    ·
      have hq : ¬ (2 ≤ mn ∧ 1000000 ≤ rx ^ mn) := fun q9 => absurd q9.1 (by omega)
      refine lv_iconst (v := nI 0) hx hb dX8_canTurn_52 (by decide) ?_
      refine gv_top (y := nI (if 2 ≤ mn ∧ 1000000 ≤ rx ^ mn then 1 else 0)) (congrArg nI (if_neg (fun q9 => hq q9)).symm) ?_
      exact W.zret (v := (nI (if 2 ≤ mn ∧ 1000000 ≤ rx ^ mn then 1 else 0))) hx hb hr (by split <;> rfl) (fun t ht hW => ⟨⟨_, (c0, u0), rfl, rfl, gB_end ht hW hP hK hD⟩, hS.F ht⟩) hS.2.2 dX8_canTurn_53
    ·
      refine lv_lload_n hx hb dX8_canTurn_44 rfl (lv_at hl 0 rfl) ?_
      refine lv_ldc2 (own := RX8) (v := (1000000 : Int64)) hx hb hown (hts (.constantLong RX8 129 (1000000)) (by decide +kernel)) dX8_canTurn_45 ?_
      refine gv_topl (y := lN 1000000) (by decide +kernel) ?_
      refine gl_cmp_ge (tgt := 54) hx hb dX8_canTurn_48 dX8_canTurn_49 (by decide) hlt (by decide) (fun c_48 => ?_) (fun c_48 => ?_)
      ·
        have hq : 2 ≤ mn ∧ 1000000 ≤ rx ^ mn := ⟨by omega, hiff.mp c_48⟩
        refine lv_iload_n hx hb dX8_canTurn_54 rfl (lv_at hl 2 rfl) ?_
        refine gv_if_eq (tgt := 84) hx hb dX8_canTurn_55 (by decide) (by omega) (fun c_55 => ?_) (fun c_55 => ?_)
        ·
          refine lv_iconst (v := nI 1) hx hb dX8_canTurn_84 (by decide) ?_
          refine gv_top (y := nI (if 2 ≤ mn ∧ 1000000 ≤ rx ^ mn then 1 else 0)) (congrArg nI (if_pos hq).symm) ?_
          refine lv_goto (tgt := 89) hx hb dX8_canTurn_85 (by decide) ?_
          exact W.zret (v := (nI (if 2 ≤ mn ∧ 1000000 ≤ rx ^ mn then 1 else 0))) hx hb hr (by split <;> rfl) (fun t ht hW => ⟨⟨_, (c0, u0), rfl, rfl, gB_end ht hW hP hK hD⟩, hS.F ht⟩) hS.2.2 dX8_canTurn_89
        ·
          exact absurd rfl c_55
      ·
        have hq : ¬ (2 ≤ mn ∧ 1000000 ≤ rx ^ mn) := fun q9 => absurd (hiff.mpr q9.2) (by omega)
        refine lv_iconst (v := nI 0) hx hb dX8_canTurn_52 (by decide) ?_
        refine gv_top (y := nI (if 2 ≤ mn ∧ 1000000 ≤ rx ^ mn then 1 else 0)) (congrArg nI (if_neg (fun q9 => hq q9)).symm) ?_
        exact W.zret (v := (nI (if 2 ≤ mn ∧ 1000000 ≤ rx ^ mn then 1 else 0))) hx hb hr (by split <;> rfl) (fun t ht hW => ⟨⟨_, (c0, u0), rfl, rfl, gB_end ht hW hP hK hD⟩, hS.F ht⟩) hS.2.2 dX8_canTurn_53
  refine lv_iconst (v := nI 0) hx hb dX8_canTurn_2 (by decide) ?_
  refine lv_istore (lv' := [(4, .int (nI 0)), (2, .long (lN (rx ^ 0))), (0, .ref mo), (1, .int (nI 0))]) hx hb dX8_canTurn_3 hl (by decide) rfl (fun ls hl => ?_)
  refine gw_lab (G := fun R args Q => ∀ (n9_5 : Nat) (i : Nat), n9_5 = mn - i → (i ≤ mn) → (rx ^ i < 65536000000) → ∀ (H : Heap) (locs : List Loc), va_P (dC, dI) vwCl [(mo, .inr (7, [.int (nI th), .int (nI by_), .ref abuf, .int (nI ks), .ref akey, .int (nI ts), .ref atwk, .int (nI rx), .int (nI mn), .ref arow, .ref abox, .ref awrd, .int (nI rd), .ref ablk, .ref amov, .int (nI za), .int (nI zb), .ref ahA, .ref ahB, .ref ahC, .ref anum, .ref amsg, .ref astr])), (ahC, .inl (cI, 64, .inl (gA c0))), (anum, .inl (cI, 128, .inl (gA u0)))] H → va_D A [(mo, .inr (7, [.int (nI th), .int (nI by_), .ref abuf, .int (nI ks), .ref akey, .int (nI ts), .ref atwk, .int (nI rx), .int (nI mn), .ref arow, .ref abox, .ref awrd, .int (nI rd), .ref ablk, .ref amov, .int (nI za), .int (nI zb), .ref ahA, .ref ahB, .ref ahC, .ref anum, .ref amsg, .ref astr])), (ahC, .inl (cI, 64, .inl (gA c0))), (anum, .inl (cI, 128, .inl (gA u0)))] → va_S A s.heap H locs → ∀ (ls : Array Slot), lv_has ls 5 [(4, .int (nI i)), (2, .long (lN (rx ^ i))), (0, .ref mo), (1, .int (nI 0))] → W p l e R s m args below meth c H locs 0 0 Q (F0 m 5 ls [])) ?_ (fun L5 => ?_)
  ·
    intro n9_5
    induction n9_5 using Nat.strongRecOn with
    | ind n9_5 ih9_5 =>
      intro i hmu9_5 hi hrw H locs hP hD hS ls hl
      refine lv_iload hx hb dX8_canTurn_5 (lv_at hl 0 rfl) ?_
      refine lv_aload_n hx hb dX8_canTurn_7 rfl (lv_at hl 2 rfl) ?_
      refine gv_get (own := RX8) (D := (dC, dI)) (ci := 7) (C := RX8) (T := TX8) (N := 23) (v := .int (nI mn)) hx hb hts (by decide +kernel) hown hK hP 0 rfl rfl 8 (by decide) (hts (.fieldLink RX8 89 "NumeralCipherModel" "many" "I") (by decide +kernel)) rfl rfl dX8_canTurn_8 ?_
      refine gv_icmp_ge (tgt := 36) hx hb dX8_canTurn_11 (by decide) (by omega) (by omega) (fun c_11 => ?_) (fun c_11 => ?_)
      ·
        have h36 : 1000000 ≤ rx ^ i ↔ 1000000 ≤ rx ^ mn := le_iff (by rw [show i = mn by omega])
        exact L36 (rx ^ i) (by omega) h36 _ _ hP hD hS _ (lv_sub hl [1, 2, 3] rfl)
      ·
        refine lv_lload_n hx hb dX8_canTurn_14 rfl (lv_at hl 1 rfl) ?_
        refine lv_ldc2 (own := RX8) (v := (1000000 : Int64)) hx hb hown (hts (.constantLong RX8 129 (1000000)) (by decide +kernel)) dX8_canTurn_15 ?_
        refine gv_topl (y := lN 1000000) (by decide +kernel) ?_
        refine gl_cmp_ge (tgt := 36) hx hb dX8_canTurn_18 dX8_canTurn_19 (by decide) (by omega) (by decide) (fun c_18 => ?_) (fun c_18 => ?_)
        ·
          have h36 := le_big (n := mn) (show 1 ≤ rx by omega) c_18 (by omega)
          exact L36 (rx ^ i) (by omega) h36 _ _ hP hD hS _ (lv_sub hl [1, 2, 3] rfl)
        ·
          refine lv_lload_n hx hb dX8_canTurn_22 rfl (lv_at hl 1 rfl) ?_
          refine lv_aload_n hx hb dX8_canTurn_23 rfl (lv_at hl 2 rfl) ?_
          refine gv_get (own := RX8) (D := (dC, dI)) (ci := 7) (C := RX8) (T := TX8) (N := 23) (v := .int (nI rx)) hx hb hts (by decide +kernel) hown hK hP 0 rfl rfl 7 (by decide) (hts (.fieldLink RX8 23 "NumeralCipherModel" "radix" "I") (by decide +kernel)) rfl rfl dX8_canTurn_24 ?_
          refine lv_i2l (v := lN rx) hx hb dX8_canTurn_27 (nI_l (by omega)) ?_
          refine gl_lmul (r := (rx ^ i) * rx) hx hb dX8_canTurn_28 rfl ?_
          refine gv_topl (y := lN (rx ^ (i + 1))) (congrArg lN (by rw [Nat.pow_succ])) ?_
          refine lv_lstore_n (lv' := [(2, .long (lN (rx ^ (i + 1)))), (4, .int (nI i)), (0, .ref mo), (1, .int (nI 0))]) hx hb dX8_canTurn_29 rfl hl (by decide) rfl (fun ls hl => ?_)
          refine lv_iinc (v := nI (i + 1)) (lv' := [(4, .int (nI (i + 1))), (2, .long (lN (rx ^ (i + 1)))), (0, .ref mo), (1, .int (nI 0))]) hx hb dX8_canTurn_30 hl (k := 1) rfl (gz_inc1 _) (by decide) rfl (fun ls hl => ?_)
          refine lv_goto (tgt := 5) hx hb dX8_canTurn_33 (by decide) ?_
          exact ih9_5 _ (by omega) (i + 1) rfl (by omega) (by rw [Nat.pow_succ]; have h8 : rx ^ i * rx < 1000000 * rx := Nat.mul_lt_mul_of_pos_right c_18 (by omega); have h7 : 1000000 * rx ≤ 1000000 * 65536 := Nat.mul_le_mul_left _ hr2; omega) _ _ hP hD hS _ hl
  exact L5 _ 0 rfl (by omega) (by rw [Nat.pow_zero]; decide) _ _ hP hD hS _ hl

set_option maxHeartbeats 4000000 in
set_option maxRecDepth 100000 in
/-- canTurn(1) -/
theorem c_X8_canTurn_1 (l : Launch) (dC : Nat → ClassId) (dI : Nat → Nat → Nat) (cI : ClassId) (sz : Nat) (mo : Nat) (abuf : Nat) (akey : Nat) (atwk : Nat) (arow : Nat) (abox : Nat) (awrd : Nat) (ablk : Nat) (amov : Nat) (ahA : Nat) (ahB : Nat) (ahC : Nat) (anum : Nat) (amsg : Nat) (astr : Nat) (th : Nat) (by_ : Nat) (ks : Nat) (ts : Nat) (rx : Nat) (mn : Nat) (rd : Nat) (za : Nat) (zb : Nat) (c0 : Nat → Nat) (u0 : Nat → Nat) (hr1 : 2 ≤ rx) (hr2 : rx ≤ 65536) (hm2 : mn ≤ 64) (hts7 : ts ≤ 64) : Met l yX8_canTurn wsX8_canTurn ({ frames := 2, cells := 0, slots := 0, locals := 51 }) (gPc dC dI cI [.ref mo, .int (nI 1)] [(mo, .inr (7, [.int (nI th), .int (nI by_), .ref abuf, .int (nI ks), .ref akey, .int (nI ts), .ref atwk, .int (nI rx), .int (nI mn), .ref arow, .ref abox, .ref awrd, .int (nI rd), .ref ablk, .ref amov, .int (nI za), .int (nI zb), .ref ahA, .ref ahB, .ref ahC, .ref anum, .ref amsg, .ref astr])), (ahC, .inl (cI, 64, .inl (gA c0))), (anum, .inl (cI, 128, .inl (gA u0)))] sz) (va_Qi (fun (r : Int32) (u : (Nat → Nat) × (Nat → Nat)) => r = (nI (if (2 ≤ mn ∧ 1000000 ≤ rx ^ mn) ∧ (ts = 7 ∧ bl (rx ^ (mn - mn / 2) - 1) ≤ 12) then 1 else 0))) (fun u t => gB dC dI cI (va_A [(mo, .inr (7, [.int (nI th), .int (nI by_), .ref abuf, .int (nI ks), .ref akey, .int (nI ts), .ref atwk, .int (nI rx), .int (nI mn), .ref arow, .ref abox, .ref awrd, .int (nI rd), .ref ablk, .ref amov, .int (nI za), .int (nI zb), .ref ahA, .ref ahB, .ref ahC, .ref anum, .ref amsg, .ref astr])), (ahC, .inl (cI, 64, .inl (gA c0))), (anum, .inl (cI, 128, .inl (gA u0)))] sz) [(mo, .inr (7, [.int (nI th), .int (nI by_), .ref abuf, .int (nI ks), .ref akey, .int (nI ts), .ref atwk, .int (nI rx), .int (nI mn), .ref arow, .ref abox, .ref awrd, .int (nI rd), .ref ablk, .ref amov, .int (nI za), .int (nI zb), .ref ahA, .ref ahB, .ref ahC, .ref anum, .ref amsg, .ref astr])), (ahC, .inl (cI, 64, .inl (gA u.1))), (anum, .inl (cI, 128, .inl (gA u.2)))] t) (va_A [(mo, .inr (7, [.int (nI th), .int (nI by_), .ref abuf, .int (nI ks), .ref akey, .int (nI ts), .ref atwk, .int (nI rx), .int (nI mn), .ref arow, .ref abox, .ref awrd, .int (nI rd), .ref ablk, .ref amov, .int (nI za), .int (nI zb), .ref ahA, .ref ahB, .ref ahC, .ref anum, .ref amsg, .ref astr])), (ahC, .inl (cI, 64, .inl (gA c0))), (anum, .inl (cI, 128, .inl (gA u0)))] sz)) 0 0 (va_A [(mo, .inr (7, [.int (nI th), .int (nI by_), .ref abuf, .int (nI ks), .ref akey, .int (nI ts), .ref atwk, .int (nI rx), .int (nI mn), .ref arow, .ref abox, .ref awrd, .int (nI rd), .ref ablk, .ref amov, .int (nI za), .int (nI zb), .ref ahA, .ref ahB, .ref ahC, .ref anum, .ref amsg, .ref astr])), (ahC, .inl (cI, 64, .inl (gA c0))), (anum, .inl (cI, 128, .inl (gA u0)))] sz) := by
  refine Met.ofW (cc := cX8_canTurn) (maxL := 5) (ret := (some .boolean)) (by decide) rfl ?_
  intro p e s m args below meth c s₁ B9 hml hv
  obtain ⟨rfl, hsz, ⟨hP, hK, hD0⟩⟩ := hv
  have hx := B9.exec
  have hb := B9.bytes
  have hr := B9.returns
  have hts := atoms_spec (ws := wsX8_canTurn) B9.pre
  have hown : s.vm.findClass RX8 = some m.cls := findClass_of_methodNamed B9.named
  have hlocks := B9.notSynchronized
  subst hsz
  have hD := hD0.self (sz := s.heap.size)
  generalize hAe : va_A [(mo, .inr (7, [.int (nI th), .int (nI by_), .ref abuf, .int (nI ks), .ref akey, .int (nI ts), .ref atwk, .int (nI rx), .int (nI mn), .ref arow, .ref abox, .ref awrd, .int (nI rd), .ref ablk, .ref amov, .int (nI za), .int (nI zb), .ref ahA, .ref ahB, .ref ahC, .ref anum, .ref amsg, .ref astr])), (ahC, .inl (cI, 64, .inl (gA c0))), (anum, .inl (cI, 128, .inl (gA u0)))] s.heap.size = A at hD ⊢
  have hA : ∀ q : Nat, s.heap.size ≤ q → A q := fun q h => by rw [← hAe]; exact Or.inr h
  have hS : va_S A s.heap s.heap [] := va_S.rf
  have hl := lv_entry ([.ref mo, .int (nI 1)]) (n := 5) (Nat.le_of_ble_eq_true rfl)
  rw [lg_entry_eq]
  generalize (lg_sl ([.ref mo, .int (nI 1)]) ++ List.replicate (5 - (lg_sl ([.ref mo, .int (nI 1)])).length) Slot.unset).toArray = ls at hl ⊢
  have hl : lv_has ls 5 [(0, .ref mo), (1, .int (nI 1))] := hl
  refine lv_lconst (v := lN 1) hx hb dX8_canTurn_0 (by decide) ?_
  refine gv_topl (y := lN (rx ^ 0)) (congrArg lN (Nat.pow_zero rx).symm) ?_
  refine lv_lstore_n (lv' := [(2, .long (lN (rx ^ 0))), (0, .ref mo), (1, .int (nI 1))]) hx hb dX8_canTurn_1 rfl hl (by decide) rfl (fun ls hl => ?_)
  refine gw_lab (G := fun R args Q => ∀ (rw_ : Nat), (rw_ < 9223372036854775808) → (1000000 ≤ rw_ ↔ 1000000 ≤ rx ^ mn) → ∀ (H : Heap) (locs : List Loc), va_P (dC, dI) vwCl [(mo, .inr (7, [.int (nI th), .int (nI by_), .ref abuf, .int (nI ks), .ref akey, .int (nI ts), .ref atwk, .int (nI rx), .int (nI mn), .ref arow, .ref abox, .ref awrd, .int (nI rd), .ref ablk, .ref amov, .int (nI za), .int (nI zb), .ref ahA, .ref ahB, .ref ahC, .ref anum, .ref amsg, .ref astr])), (ahC, .inl (cI, 64, .inl (gA c0))), (anum, .inl (cI, 128, .inl (gA u0)))] H → va_D A [(mo, .inr (7, [.int (nI th), .int (nI by_), .ref abuf, .int (nI ks), .ref akey, .int (nI ts), .ref atwk, .int (nI rx), .int (nI mn), .ref arow, .ref abox, .ref awrd, .int (nI rd), .ref ablk, .ref amov, .int (nI za), .int (nI zb), .ref ahA, .ref ahB, .ref ahC, .ref anum, .ref amsg, .ref astr])), (ahC, .inl (cI, 64, .inl (gA c0))), (anum, .inl (cI, 128, .inl (gA u0)))] → va_S A s.heap H locs → ∀ (ls : Array Slot), lv_has ls 5 [(2, .long (lN rw_)), (0, .ref mo), (1, .int (nI 1))] → W p l e R s m args below meth c H locs 0 0 Q (F0 m 36 ls [])) ?_ (fun L36 => ?_)
  ·
    intro rw_ hlt hiff H locs hP hD hS ls hl
    refine lv_aload_n hx hb dX8_canTurn_36 rfl (lv_at hl 1 rfl) ?_
    refine gv_get (own := RX8) (D := (dC, dI)) (ci := 7) (C := RX8) (T := TX8) (N := 23) (v := .int (nI mn)) hx hb hts (by decide +kernel) hown hK hP 0 rfl rfl 8 (by decide) (hts (.fieldLink RX8 89 "NumeralCipherModel" "many" "I") (by decide +kernel)) rfl rfl dX8_canTurn_37 ?_
    refine lv_iconst (v := nI 2) hx hb dX8_canTurn_40 (by decide) ?_
    refine gv_icmp_lt (tgt := 52) hx hb dX8_canTurn_41 (by decide) (by omega) (by omega) (fun c_41 => ?_) (fun c_41 => ?_)
    ·
      have hq : ¬ (2 ≤ mn ∧ 1000000 ≤ rx ^ mn) := fun q9 => absurd q9.1 (by omega)
      refine lv_iconst (v := nI 0) hx hb dX8_canTurn_52 (by decide) ?_
      refine gv_top (y := nI (if (2 ≤ mn ∧ 1000000 ≤ rx ^ mn) ∧ (ts = 7 ∧ bl (rx ^ (mn - mn / 2) - 1) ≤ 12) then 1 else 0)) (congrArg nI (if_neg (fun q9 => hq q9.1)).symm) ?_
      exact W.zret (v := (nI (if (2 ≤ mn ∧ 1000000 ≤ rx ^ mn) ∧ (ts = 7 ∧ bl (rx ^ (mn - mn / 2) - 1) ≤ 12) then 1 else 0))) hx hb hr (by split <;> rfl) (fun t ht hW => ⟨⟨_, (c0, u0), rfl, rfl, gB_end ht hW hP hK hD⟩, hS.F ht⟩) hS.2.2 dX8_canTurn_53
    ·
      refine lv_lload_n hx hb dX8_canTurn_44 rfl (lv_at hl 0 rfl) ?_
      refine lv_ldc2 (own := RX8) (v := (1000000 : Int64)) hx hb hown (hts (.constantLong RX8 129 (1000000)) (by decide +kernel)) dX8_canTurn_45 ?_
      refine gv_topl (y := lN 1000000) (by decide +kernel) ?_
      refine gl_cmp_ge (tgt := 54) hx hb dX8_canTurn_48 dX8_canTurn_49 (by decide) hlt (by decide) (fun c_48 => ?_) (fun c_48 => ?_)
      ·
        have hq : 2 ≤ mn ∧ 1000000 ≤ rx ^ mn := ⟨by omega, hiff.mp c_48⟩
        refine lv_iload_n hx hb dX8_canTurn_54 rfl (lv_at hl 2 rfl) ?_
        refine gv_if_eq (tgt := 84) hx hb dX8_canTurn_55 (by decide) (by omega) (fun c_55 => ?_) (fun c_55 => ?_)
        ·
          exact absurd c_55 (by omega)
        ·
          refine lv_aload_n hx hb dX8_canTurn_58 rfl (lv_at hl 1 rfl) ?_
          refine gv_get (own := RX8) (D := (dC, dI)) (ci := 7) (C := RX8) (T := TX8) (N := 23) (v := .int (nI ts)) hx hb hts (by decide +kernel) hown hK hP 0 rfl rfl 5 (by decide) (hts (.fieldLink RX8 95 "NumeralCipherModel" "tweakSize" "I") (by decide +kernel)) rfl rfl dX8_canTurn_59 ?_
          refine lv_bipush (v := nI 7) hx hb dX8_canTurn_62 (by decide) ?_
          refine gv_icmp_ne (tgt := 88) hx hb dX8_canTurn_64 (by decide) (by omega) (by omega) (fun c_64 => ?_) (fun c_64 => ?_)
          ·
            have hq2 : ¬ (ts = 7 ∧ bl (rx ^ (mn - mn / 2) - 1) ≤ 12) := fun q9 => c_64 q9.1
            refine lv_iconst (v := nI 0) hx hb dX8_canTurn_88 (by decide) ?_
            refine gv_top (y := nI (if (2 ≤ mn ∧ 1000000 ≤ rx ^ mn) ∧ (ts = 7 ∧ bl (rx ^ (mn - mn / 2) - 1) ≤ 12) then 1 else 0)) (congrArg nI (if_neg (fun q9 => hq2 q9.2)).symm) ?_
            exact W.zret (v := (nI (if (2 ≤ mn ∧ 1000000 ≤ rx ^ mn) ∧ (ts = 7 ∧ bl (rx ^ (mn - mn / 2) - 1) ≤ 12) then 1 else 0))) hx hb hr (by split <;> rfl) (fun t ht hW => ⟨⟨_, (c0, u0), rfl, rfl, gB_end ht hW hP hK hD⟩, hS.F ht⟩) hS.2.2 dX8_canTurn_89
          ·
            refine lv_aload_n hx hb dX8_canTurn_67 rfl (lv_at hl 1 rfl) ?_
            refine lv_aload_n hx hb dX8_canTurn_68 rfl (lv_at hl 1 rfl) ?_
            refine gv_get (own := RX8) (D := (dC, dI)) (ci := 7) (C := RX8) (T := TX8) (N := 23) (v := .int (nI mn)) hx hb hts (by decide +kernel) hown hK hP 0 rfl rfl 8 (by decide) (hts (.fieldLink RX8 89 "NumeralCipherModel" "many" "I") (by decide +kernel)) rfl rfl dX8_canTurn_69 ?_
            refine lv_iconst (v := nI 1) hx hb dX8_canTurn_72 (by decide) ?_
            refine gv_iadd (r := mn + 1) hx hb dX8_canTurn_73 rfl ?_
            refine lv_iconst (v := nI 2) hx hb dX8_canTurn_74 (by decide) ?_
            refine gv_idiv (r := (mn + 1) / 2) hx hb dX8_canTurn_75 (by omega) (by omega) (by omega) rfl ?_
            refine gv_top (y := nI (mn - mn / 2)) (congrArg nI (by omega)) ?_
            have hPc := hP.sub (ws' := [(mo, .inr (7, [.int (nI th), .int (nI by_), .ref abuf, .int (nI ks), .ref akey, .int (nI ts), .ref atwk, .int (nI rx), .int (nI mn), .ref arow, .ref abox, .ref awrd, .int (nI rd), .ref ablk, .ref amov, .int (nI za), .int (nI zb), .ref ahA, .ref ahB, .ref ahC, .ref anum, .ref amsg, .ref astr])), (ahC, .inl (cI, 64, .inl (gA c0))), (anum, .inl (cI, 128, .inl (gA u0)))]) [0, 1, 2] rfl
            have hDc := hD.sub (ws' := [(mo, .inr (7, [.int (nI th), .int (nI by_), .ref abuf, .int (nI ks), .ref akey, .int (nI ts), .ref atwk, .int (nI rx), .int (nI mn), .ref arow, .ref abox, .ref awrd, .int (nI rd), .ref ablk, .ref amov, .int (nI za), .int (nI zb), .ref ahA, .ref ahB, .ref ahC, .ref anum, .ref amsg, .ref astr])), (ahC, .inl (cI, 64, .inl (gA c0))), (anum, .inl (cI, 128, .inl (gA u0)))]) [0, 1, 2] (by decide) rfl
            have hFc := va_free (wc := [(mo, .inr (7, [.int (nI th), .int (nI by_), .ref abuf, .int (nI ks), .ref akey, .int (nI ts), .ref atwk, .int (nI rx), .int (nI mn), .ref arow, .ref abox, .ref awrd, .int (nI rd), .ref ablk, .ref amov, .int (nI za), .int (nI zb), .ref ahA, .ref ahB, .ref ahC, .ref anum, .ref amsg, .ref astr])), (ahC, .inl (cI, 64, .inl (gA c0))), (anum, .inl (cI, 128, .inl (gA u0)))]) hD hS hA [0, 1, 2] rfl
            refine va_calli (va_runV (As := [.int (nI (mn - mn / 2))]) (rest := []) ⟨hx, hb, hml, hown, hts⟩ (c_X8_bytesOf l dC dI cI H.size mo abuf akey atwk arow abox awrd ablk amov ahA ahB ahC anum amsg astr th by_ ks ts rx mn rd za zb (mn - mn / 2) c0 u0 (by omega) (by omega) (by omega)) (cwV 1 hts gX8_canTurn_X8_bytesOf rfl rfl rfl (by decide +kernel) ⟨Nat.le_of_ble_eq_true rfl, Nat.le_of_ble_eq_true rfl⟩) ⟨gPc_blind, va_recv hK hPc (ci := 7) (q0 := 0) rfl rfl, gPc_pre hPc hK hDc⟩ rfl rfl hl.1 rfl (lv_room (Nat.le_of_ble_eq_true rfl)) dX8_canTurn_76 ⟨Nat.zero_le _, Nat.zero_le _⟩) hS (fun q _ h => hFc q h) hFc (fun r9 u8 t8 H1 locs ht hvm hw hB hz1 hk1 hS => ?_)
            obtain ⟨c9_1, u9_1⟩ := u8
            try dsimp only at hw hB
            obtain ⟨hP, hD⟩ := gB_join (wr := []) (w2 := [(mo, .inr (7, [.int (nI th), .int (nI by_), .ref abuf, .int (nI ks), .ref akey, .int (nI ts), .ref atwk, .int (nI rx), .int (nI mn), .ref arow, .ref abox, .ref awrd, .int (nI rd), .ref ablk, .ref amov, .int (nI za), .int (nI zb), .ref ahA, .ref ahB, .ref ahC, .ref anum, .ref amsg, .ref astr])), (ahC, .inl (cI, 64, .inl (gA c9_1))), (anum, .inl (cI, 128, .inl (gA u9_1)))]) hP hD [0, 1, 2] [] rfl rfl (by decide) (by decide) hk1 hFc ht hB rfl
            clear hk1 hz1 ht hB hvm hPc hDc hFc
            generalize H1 = H at hP hS ⊢
            subst hw
            have hbl9 : bl (rx ^ (mn - mn / 2) - 1) < 2147483648 := Nat.lt_of_le_of_lt (bl_64 (by omega) hr2 (by omega)) (by decide)
            refine lv_bipush (v := nI 12) hx hb dX8_canTurn_79 (by decide) ?_
            refine gv_icmp_gt (tgt := 88) hx hb dX8_canTurn_81 (by decide) hbl9 (by decide) (fun c_81 => ?_) (fun c_81 => ?_)
            ·
              have hq2 : ¬ (ts = 7 ∧ bl (rx ^ (mn - mn / 2) - 1) ≤ 12) := fun q9 => absurd q9.2 (by omega)
              refine lv_iconst (v := nI 0) hx hb dX8_canTurn_88 (by decide) ?_
              refine gv_top (y := nI (if (2 ≤ mn ∧ 1000000 ≤ rx ^ mn) ∧ (ts = 7 ∧ bl (rx ^ (mn - mn / 2) - 1) ≤ 12) then 1 else 0)) (congrArg nI (if_neg (fun q9 => hq2 q9.2)).symm) ?_
              exact W.zret (v := (nI (if (2 ≤ mn ∧ 1000000 ≤ rx ^ mn) ∧ (ts = 7 ∧ bl (rx ^ (mn - mn / 2) - 1) ≤ 12) then 1 else 0))) hx hb hr (by split <;> rfl) (fun t ht hW => ⟨⟨_, (c9_1, u9_1), rfl, rfl, gB_end ht hW hP hK hD⟩, hS.F ht⟩) hS.2.2 dX8_canTurn_89
            ·
              have hq2 : ts = 7 ∧ bl (rx ^ (mn - mn / 2) - 1) ≤ 12 := ⟨by omega, by omega⟩
              refine lv_iconst (v := nI 1) hx hb dX8_canTurn_84 (by decide) ?_
              refine gv_top (y := nI (if (2 ≤ mn ∧ 1000000 ≤ rx ^ mn) ∧ (ts = 7 ∧ bl (rx ^ (mn - mn / 2) - 1) ≤ 12) then 1 else 0)) (congrArg nI (if_pos ⟨hq, hq2⟩).symm) ?_
              refine lv_goto (tgt := 89) hx hb dX8_canTurn_85 (by decide) ?_
              exact W.zret (v := (nI (if (2 ≤ mn ∧ 1000000 ≤ rx ^ mn) ∧ (ts = 7 ∧ bl (rx ^ (mn - mn / 2) - 1) ≤ 12) then 1 else 0))) hx hb hr (by split <;> rfl) (fun t ht hW => ⟨⟨_, (c9_1, u9_1), rfl, rfl, gB_end ht hW hP hK hD⟩, hS.F ht⟩) hS.2.2 dX8_canTurn_89
      ·
        have hq : ¬ (2 ≤ mn ∧ 1000000 ≤ rx ^ mn) := fun q9 => absurd (hiff.mpr q9.2) (by omega)
        refine lv_iconst (v := nI 0) hx hb dX8_canTurn_52 (by decide) ?_
        refine gv_top (y := nI (if (2 ≤ mn ∧ 1000000 ≤ rx ^ mn) ∧ (ts = 7 ∧ bl (rx ^ (mn - mn / 2) - 1) ≤ 12) then 1 else 0)) (congrArg nI (if_neg (fun q9 => hq q9.1)).symm) ?_
        exact W.zret (v := (nI (if (2 ≤ mn ∧ 1000000 ≤ rx ^ mn) ∧ (ts = 7 ∧ bl (rx ^ (mn - mn / 2) - 1) ≤ 12) then 1 else 0))) hx hb hr (by split <;> rfl) (fun t ht hW => ⟨⟨_, (c0, u0), rfl, rfl, gB_end ht hW hP hK hD⟩, hS.F ht⟩) hS.2.2 dX8_canTurn_53
  refine lv_iconst (v := nI 0) hx hb dX8_canTurn_2 (by decide) ?_
  refine lv_istore (lv' := [(4, .int (nI 0)), (2, .long (lN (rx ^ 0))), (0, .ref mo), (1, .int (nI 1))]) hx hb dX8_canTurn_3 hl (by decide) rfl (fun ls hl => ?_)
  refine gw_lab (G := fun R args Q => ∀ (n9_5 : Nat) (i : Nat), n9_5 = mn - i → (i ≤ mn) → (rx ^ i < 65536000000) → ∀ (H : Heap) (locs : List Loc), va_P (dC, dI) vwCl [(mo, .inr (7, [.int (nI th), .int (nI by_), .ref abuf, .int (nI ks), .ref akey, .int (nI ts), .ref atwk, .int (nI rx), .int (nI mn), .ref arow, .ref abox, .ref awrd, .int (nI rd), .ref ablk, .ref amov, .int (nI za), .int (nI zb), .ref ahA, .ref ahB, .ref ahC, .ref anum, .ref amsg, .ref astr])), (ahC, .inl (cI, 64, .inl (gA c0))), (anum, .inl (cI, 128, .inl (gA u0)))] H → va_D A [(mo, .inr (7, [.int (nI th), .int (nI by_), .ref abuf, .int (nI ks), .ref akey, .int (nI ts), .ref atwk, .int (nI rx), .int (nI mn), .ref arow, .ref abox, .ref awrd, .int (nI rd), .ref ablk, .ref amov, .int (nI za), .int (nI zb), .ref ahA, .ref ahB, .ref ahC, .ref anum, .ref amsg, .ref astr])), (ahC, .inl (cI, 64, .inl (gA c0))), (anum, .inl (cI, 128, .inl (gA u0)))] → va_S A s.heap H locs → ∀ (ls : Array Slot), lv_has ls 5 [(4, .int (nI i)), (2, .long (lN (rx ^ i))), (0, .ref mo), (1, .int (nI 1))] → W p l e R s m args below meth c H locs 0 0 Q (F0 m 5 ls [])) ?_ (fun L5 => ?_)
  ·
    intro n9_5
    induction n9_5 using Nat.strongRecOn with
    | ind n9_5 ih9_5 =>
      intro i hmu9_5 hi hrw H locs hP hD hS ls hl
      refine lv_iload hx hb dX8_canTurn_5 (lv_at hl 0 rfl) ?_
      refine lv_aload_n hx hb dX8_canTurn_7 rfl (lv_at hl 2 rfl) ?_
      refine gv_get (own := RX8) (D := (dC, dI)) (ci := 7) (C := RX8) (T := TX8) (N := 23) (v := .int (nI mn)) hx hb hts (by decide +kernel) hown hK hP 0 rfl rfl 8 (by decide) (hts (.fieldLink RX8 89 "NumeralCipherModel" "many" "I") (by decide +kernel)) rfl rfl dX8_canTurn_8 ?_
      refine gv_icmp_ge (tgt := 36) hx hb dX8_canTurn_11 (by decide) (by omega) (by omega) (fun c_11 => ?_) (fun c_11 => ?_)
      ·
        have h36 : 1000000 ≤ rx ^ i ↔ 1000000 ≤ rx ^ mn := le_iff (by rw [show i = mn by omega])
        exact L36 (rx ^ i) (by omega) h36 _ _ hP hD hS _ (lv_sub hl [1, 2, 3] rfl)
      ·
        refine lv_lload_n hx hb dX8_canTurn_14 rfl (lv_at hl 1 rfl) ?_
        refine lv_ldc2 (own := RX8) (v := (1000000 : Int64)) hx hb hown (hts (.constantLong RX8 129 (1000000)) (by decide +kernel)) dX8_canTurn_15 ?_
        refine gv_topl (y := lN 1000000) (by decide +kernel) ?_
        refine gl_cmp_ge (tgt := 36) hx hb dX8_canTurn_18 dX8_canTurn_19 (by decide) (by omega) (by decide) (fun c_18 => ?_) (fun c_18 => ?_)
        ·
          have h36 := le_big (n := mn) (show 1 ≤ rx by omega) c_18 (by omega)
          exact L36 (rx ^ i) (by omega) h36 _ _ hP hD hS _ (lv_sub hl [1, 2, 3] rfl)
        ·
          refine lv_lload_n hx hb dX8_canTurn_22 rfl (lv_at hl 1 rfl) ?_
          refine lv_aload_n hx hb dX8_canTurn_23 rfl (lv_at hl 2 rfl) ?_
          refine gv_get (own := RX8) (D := (dC, dI)) (ci := 7) (C := RX8) (T := TX8) (N := 23) (v := .int (nI rx)) hx hb hts (by decide +kernel) hown hK hP 0 rfl rfl 7 (by decide) (hts (.fieldLink RX8 23 "NumeralCipherModel" "radix" "I") (by decide +kernel)) rfl rfl dX8_canTurn_24 ?_
          refine lv_i2l (v := lN rx) hx hb dX8_canTurn_27 (nI_l (by omega)) ?_
          refine gl_lmul (r := (rx ^ i) * rx) hx hb dX8_canTurn_28 rfl ?_
          refine gv_topl (y := lN (rx ^ (i + 1))) (congrArg lN (by rw [Nat.pow_succ])) ?_
          refine lv_lstore_n (lv' := [(2, .long (lN (rx ^ (i + 1)))), (4, .int (nI i)), (0, .ref mo), (1, .int (nI 1))]) hx hb dX8_canTurn_29 rfl hl (by decide) rfl (fun ls hl => ?_)
          refine lv_iinc (v := nI (i + 1)) (lv' := [(4, .int (nI (i + 1))), (2, .long (lN (rx ^ (i + 1)))), (0, .ref mo), (1, .int (nI 1))]) hx hb dX8_canTurn_30 hl (k := 1) rfl (gz_inc1 _) (by decide) rfl (fun ls hl => ?_)
          refine lv_goto (tgt := 5) hx hb dX8_canTurn_33 (by decide) ?_
          exact ih9_5 _ (by omega) (i + 1) rfl (by omega) (by rw [Nat.pow_succ]; have h8 : rx ^ i * rx < 1000000 * rx := Nat.mul_lt_mul_of_pos_right c_18 (by omega); have h7 : 1000000 * rx ≤ 1000000 * 65536 := Nat.mul_le_mul_left _ hr2; omega) _ _ hP hD hS _ hl
  exact L5 _ 0 rfl (by omega) (by rw [Nat.pow_zero]; decide) _ _ hP hD hS _ hl
