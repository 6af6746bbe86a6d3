set_option maxHeartbeats 4000000 in
set_option maxRecDepth 100000 in
/-- SecondWay.takes -/
theorem c_X5_takes (l : Launch) (dC : Nat → ClassId) (dI : Nat → Nat → Nat) (cI : ClassId) (tS : Nat) (sz : Nat) (wy : Nat) (ci : Nat) (tu : Nat) (lf : Nat) (rt : Nat) (ro : Nat) (rc : Nat) (n : Nat) (bs : Nat) (to : Nat) (tc : Nat) (tn : Nat) (na : Nat) (nc : Nat) (k0 : Nat) (f0 : Nat → Nat) (hn : n ≤ 64) (hb1 : 2 ≤ bs) (hb2 : bs ≤ 65536) (htn : tn ≤ 64) : Met l yX5_takes wsX5_takes ({ frames := 4, cells := 0, slots := 0, locals := 93 }) (gPe dC dI cI tS [.ref wy, .ref ro, .ref to, .ref na] [(wy, .inr (5, [.ref ci, .ref tu, .int (nI lf), .int (nI rt)])), (ro, .inr (4, [.ref rc, .int (nI n), .int (nI bs)])), (to, .inr (1, [.ref tc, .int (nI tn)])), (na, .inr (3, [.ref nc, .int (nI k0)])), (nc, .inl (cI, 17, .inl (gA f0)))] sz) (va_Qi (fun (r : Int32) (u : (Nat → Nat) × Nat) => r = (nI (if tn = 7 ∧ bl (bs ^ (n - n / 2) - 1) ≤ 12 then 1 else 0))) (fun u t => gB dC dI cI (va_A [(wy, .inr (5, [.ref ci, .ref tu, .int (nI lf), .int (nI rt)])), (ro, .inr (4, [.ref rc, .int (nI n), .int (nI bs)])), (to, .inr (1, [.ref tc, .int (nI tn)])), (na, .inr (3, [.ref nc, .int (nI k0)])), (nc, .inl (cI, 17, .inl (gA f0)))] sz) [(wy, .inr (5, [.ref ci, .ref tu, .int (nI lf), .int (nI rt)])), (ro, .inr (4, [.ref rc, .int (nI n), .int (nI bs)])), (to, .inr (1, [.ref tc, .int (nI tn)])), (na, .inr (3, [.ref nc, .int (nI u.2)])), (nc, .inl (cI, 17, .inl (gA u.1)))] t) (va_A [(wy, .inr (5, [.ref ci, .ref tu, .int (nI lf), .int (nI rt)])), (ro, .inr (4, [.ref rc, .int (nI n), .int (nI bs)])), (to, .inr (1, [.ref tc, .int (nI tn)])), (na, .inr (3, [.ref nc, .int (nI k0)])), (nc, .inl (cI, 17, .inl (gA f0)))] sz)) 0 0 (va_A [(wy, .inr (5, [.ref ci, .ref tu, .int (nI lf), .int (nI rt)])), (ro, .inr (4, [.ref rc, .int (nI n), .int (nI bs)])), (to, .inr (1, [.ref tc, .int (nI tn)])), (na, .inr (3, [.ref nc, .int (nI k0)])), (nc, .inl (cI, 17, .inl (gA f0)))] sz) := by
  refine Met.ofW (cc := cX5_takes) (maxL := 4) (ret := (some .boolean)) (by decide) rfl ?_
  intro p e s m args below meth c s₁ B9 hml hv
  obtain ⟨rfl, hsz, ⟨hP, hK, hD0⟩, hE⟩ := hv
  have hx := B9.exec
  have hb := B9.bytes
  have hr := B9.returns
  have hts := atoms_spec (ws := wsX5_takes) B9.pre
  have hown : s.vm.findClass RX5 = some m.cls := findClass_of_methodNamed B9.named
  have hlocks := B9.notSynchronized
  subst hsz
  have hD := hD0.self (sz := s.heap.size)
  generalize hAe : va_A [(wy, .inr (5, [.ref ci, .ref tu, .int (nI lf), .int (nI rt)])), (ro, .inr (4, [.ref rc, .int (nI n), .int (nI bs)])), (to, .inr (1, [.ref tc, .int (nI tn)])), (na, .inr (3, [.ref nc, .int (nI k0)])), (nc, .inl (cI, 17, .inl (gA f0)))] s.heap.size = A at hD hE ⊢
  have hA : ∀ q : Nat, s.heap.size ≤ q → A q := fun q h => by rw [← hAe]; exact Or.inr h
  have hS : va_S A s.heap s.heap [] := va_S.rf
  have hl := lv_entry ([.ref wy, .ref ro, .ref to, .ref na]) (n := 4) (Nat.le_of_ble_eq_true rfl)
  rw [lg_entry_eq]
  generalize (lg_sl ([.ref wy, .ref ro, .ref to, .ref na]) ++ List.replicate (4 - (lg_sl ([.ref wy, .ref ro, .ref to, .ref na])).length) Slot.unset).toArray = ls at hl ⊢
  have hl : lv_has ls 4 [(0, .ref wy), (1, .ref ro), (2, .ref to), (3, .ref na)] := hl
  refine lv_aload_n hx hb dX5_takes_0 rfl (lv_at hl 2 rfl) ?_
  refine gv_getN (own := RX5) (D := (dC, dI)) (ci := 1) (C := RX1) (T := TX1) (N := 2) (v := .int (nI tn)) hx hb hts (by decide +kernel) hown hK hP 2 rfl rfl 1 (by decide) (hE.nest (.fieldLinkNest "NumeralCipher$SecondWay" 15 "NumeralCipher$Bytes" "size" "I" "NumeralCipher") (by decide +kernel)) rfl rfl dX5_takes_1 ?_
  refine lv_bipush (v := nI 7) hx hb dX5_takes_4 (by decide) ?_
  refine gv_icmp_ne (tgt := 31) hx hb dX5_takes_6 (by decide) (by omega) (by omega) (fun c_6 => ?_) (fun c_6 => ?_)
  ·
    refine lv_iconst (v := nI 0) hx hb dX5_takes_31 (by decide) ?_
    refine gv_top (y := nI (if tn = 7 ∧ bl (bs ^ (n - n / 2) - 1) ≤ 12 then 1 else 0)) (congrArg nI (if_neg (fun q9 => c_6 q9.1)).symm) ?_
    exact W.zret (v := (nI (if tn = 7 ∧ bl (bs ^ (n - n / 2) - 1) ≤ 12 then 1 else 0))) hx hb hr (by split <;> rfl) (fun t ht hW => ⟨⟨_, (f0, k0), rfl, rfl, gB_end ht hW hP hK hD⟩, hS.F ht⟩) hS.2.2 dX5_takes_32
  ·
    refine lv_aload_n hx hb dX5_takes_9 rfl (lv_at hl 1 rfl) ?_
    refine lv_aload_n hx hb dX5_takes_10 rfl (lv_at hl 0 rfl) ?_
    refine lv_aload_n hx hb dX5_takes_11 rfl (lv_at hl 1 rfl) ?_
    refine gv_getN (own := RX5) (D := (dC, dI)) (ci := 4) (C := RX4) (T := TX4) (N := 3) (v := .int (nI n)) hx hb hts (by decide +kernel) hown hK hP 1 rfl rfl 1 (by decide) (hE.nest (.fieldLinkNest "NumeralCipher$SecondWay" 21 "NumeralCipher$Row" "size" "I" "NumeralCipher") (by decide +kernel)) rfl rfl dX5_takes_12 ?_
    refine gv_callR (W.runV (As := [.int (nI n)]) (rest := [.ref ro]) ⟨hx, hb, hml, hown, hts⟩ (c_X5_firstHalf l wy n (by omega)) (cwV 1 hts gX5_takes_X5_firstHalf rfl rfl rfl (by decide +kernel) ⟨Nat.le_of_ble_eq_true rfl, Nat.le_of_ble_eq_true rfl⟩) ⟨fun a U g mk q => q, va_recv hK hP (ci := 5) (q0 := 0) rfl rfl, fun U hU hW => ⟨rfl, trivial⟩⟩ rfl rfl hl.1 rfl (lv_room (Nat.le_of_ble_eq_true rfl)) dX5_takes_15 ⟨Nat.zero_le _, Nat.zero_le _⟩) ?_
    refine lv_aload_n hx hb dX5_takes_18 rfl (lv_at hl 3 rfl) ?_
    have hPc := hP.sub (ws' := [(ro, .inr (4, [.ref rc, .int (nI n), .int (nI bs)])), (na, .inr (3, [.ref nc, .int (nI k0)])), (nc, .inl (cI, 17, .inl (gA f0)))]) [1, 3, 4] rfl
    have hDc := hD.sub (ws' := [(ro, .inr (4, [.ref rc, .int (nI n), .int (nI bs)])), (na, .inr (3, [.ref nc, .int (nI k0)])), (nc, .inl (cI, 17, .inl (gA f0)))]) [1, 3, 4] (by decide) rfl
    have hFc := va_free (wc := [(ro, .inr (4, [.ref rc, .int (nI n), .int (nI bs)])), (na, .inr (3, [.ref nc, .int (nI k0)])), (nc, .inl (cI, 17, .inl (gA f0)))]) hD hS hA [1, 3, 4] rfl
    refine va_calli (va_runV (As := [.int (nI (n - n / 2)), .ref na]) (rest := []) ⟨hx, hb, hml, hown, hts⟩ (c_X4_widthOf l dC dI cI s.heap.size ro rc n bs na nc k0 f0 (n - n / 2) (by omega) (by omega) (by omega)) (cwV 2 hts gX5_takes_X4_widthOf rfl rfl rfl (by decide +kernel) ⟨Nat.le_of_ble_eq_true rfl, Nat.le_of_ble_eq_true rfl⟩) ⟨gPc_blind, va_recv hK hPc (ci := 4) (q0 := 0) rfl rfl, gPc_pre hPc hK hDc⟩ rfl rfl hl.1 rfl (lv_room (Nat.le_of_ble_eq_true rfl)) dX5_takes_19 ⟨Nat.zero_le _, Nat.zero_le _⟩) hS (fun q _ h => hFc q h) hFc (fun r9 u8 t8 H1 locs ht hvm hw hB hz1 hk1 hS => ?_)
    obtain ⟨f9_1, m9_1⟩ := u8
    try dsimp only at hw hB
    obtain ⟨hP, hD⟩ := gB_join (wr := [(wy, .inr (5, [.ref ci, .ref tu, .int (nI lf), .int (nI rt)])), (to, .inr (1, [.ref tc, .int (nI tn)]))]) (w2 := [(wy, .inr (5, [.ref ci, .ref tu, .int (nI lf), .int (nI rt)])), (to, .inr (1, [.ref tc, .int (nI tn)])), (ro, .inr (4, [.ref rc, .int (nI n), .int (nI bs)])), (na, .inr (3, [.ref nc, .int (nI m9_1)])), (nc, .inl (cI, 17, .inl (gA f9_1)))]) hP hD [1, 3, 4] [0, 2] rfl rfl (by decide) (by decide) hk1 hFc ht hB rfl
    clear hk1 hz1 ht hB hvm hPc hDc hFc
    generalize H1 = H at hP hS ⊢
    obtain ⟨rfl, hokw⟩ := hw
    have hWd : bl (bs ^ (n - n / 2) - 1) ≤ 64 := bl_64 (by omega) hb2 (by omega)
    refine lv_bipush (v := nI 12) hx hb dX5_takes_22 (by decide) ?_
    refine gv_icmp_gt (tgt := 31) hx hb dX5_takes_24 (by decide) (by omega) (by omega) (fun c_24 => ?_) (fun c_24 => ?_)
    ·
      refine lv_iconst (v := nI 0) hx hb dX5_takes_31 (by decide) ?_
      refine gv_top (y := nI (if tn = 7 ∧ bl (bs ^ (n - n / 2) - 1) ≤ 12 then 1 else 0)) (congrArg nI (if_neg (fun q9 => absurd q9.2 (by omega))).symm) ?_
      exact W.zret (v := (nI (if tn = 7 ∧ bl (bs ^ (n - n / 2) - 1) ≤ 12 then 1 else 0))) hx hb hr (by split <;> rfl) (fun t ht hW => ⟨⟨_, (f9_1, m9_1), rfl, rfl, gB_end ht hW (hP.sub [0, 2, 1, 3, 4] rfl) hK (hD.sub [0, 2, 1, 3, 4] (by decide) rfl)⟩, hS.F ht⟩) hS.2.2 dX5_takes_32
    ·
      refine lv_iconst (v := nI 1) hx hb dX5_takes_27 (by decide) ?_
      refine gv_top (y := nI (if tn = 7 ∧ bl (bs ^ (n - n / 2) - 1) ≤ 12 then 1 else 0)) (congrArg nI (if_pos ⟨c_6, c_24⟩).symm) ?_
      refine lv_goto (tgt := 32) hx hb dX5_takes_28 (by decide) ?_
      exact W.zret (v := (nI (if tn = 7 ∧ bl (bs ^ (n - n / 2) - 1) ≤ 12 then 1 else 0))) hx hb hr (by split <;> rfl) (fun t ht hW => ⟨⟨_, (f9_1, m9_1), rfl, rfl, gB_end ht hW (hP.sub [0, 2, 1, 3, 4] rfl) hK (hD.sub [0, 2, 1, 3, 4] (by decide) rfl)⟩, hS.F ht⟩) hS.2.2 dX5_takes_32

set_option maxHeartbeats 4000000 in
set_option maxRecDepth 100000 in
/-- SecondWay.begin -/
theorem c_X5_begin (l : Launch) (dC : Nat → ClassId) (dI : Nat → Nat → Nat) (cI : ClassId) (sz : Nat) (wy : Nat) (ci : Nat) (tu : Nat) (lf : Nat) (rt : Nat) (ro : Nat) (to : Nat) (tc : Nat) (tn : Nat) (na : Nat) (tb : Nat → Nat) (htb : ∀ j, j < 64 → tb j < 256) : Met l yX5_begin wsX5_begin ({ frames := 1, cells := 0, slots := 0, locals := 22 }) (gPc dC dI cI [.ref wy, .ref ro, .ref to, .ref na] [(wy, .inr (5, [.ref ci, .ref tu, .int (nI lf), .int (nI rt)])), (to, .inr (1, [.ref tc, .int (nI tn)])), (tc, .inl (cI, 64, .inl (gA tb)))] sz) (va_Qv (fun _u : Unit => True) (fun _u t => gB dC dI cI (va_A [(wy, .inr (5, [.ref ci, .ref tu, .int (nI lf), .int (nI rt)])), (to, .inr (1, [.ref tc, .int (nI tn)])), (tc, .inl (cI, 64, .inl (gA tb)))] sz) [(wy, .inr (5, [.ref ci, .ref tu, .int (nI (lfB tb)), .int (nI (rtB tb))])), (to, .inr (1, [.ref tc, .int (nI tn)])), (tc, .inl (cI, 64, .inl (gA tb)))] t) (va_A [(wy, .inr (5, [.ref ci, .ref tu, .int (nI lf), .int (nI rt)])), (to, .inr (1, [.ref tc, .int (nI tn)])), (tc, .inl (cI, 64, .inl (gA tb)))] sz)) 0 0 (va_A [(wy, .inr (5, [.ref ci, .ref tu, .int (nI lf), .int (nI rt)])), (to, .inr (1, [.ref tc, .int (nI tn)])), (tc, .inl (cI, 64, .inl (gA tb)))] sz) := by
  refine Met.ofW (cc := cX5_begin) (maxL := 5) (ret := none) (by decide) rfl ?_
  intro p e s m args below meth c s₁ B9 hml hv
  obtain ⟨rfl, hsz, ⟨hP, hK, hD0⟩⟩ := hv
  have hx := B9.exec
  have hb := B9.bytes
  have hr := B9.returns
  have hts := atoms_spec (ws := wsX5_begin) B9.pre
  have hown : s.vm.findClass RX5 = some m.cls := findClass_of_methodNamed B9.named
  have hlocks := B9.notSynchronized
  subst hsz
  have hD := hD0.self (sz := s.heap.size)
  generalize hAe : va_A [(wy, .inr (5, [.ref ci, .ref tu, .int (nI lf), .int (nI rt)])), (to, .inr (1, [.ref tc, .int (nI tn)])), (tc, .inl (cI, 64, .inl (gA tb)))] s.heap.size = A at hD ⊢
  have hA : ∀ q : Nat, s.heap.size ≤ q → A q := fun q h => by rw [← hAe]; exact Or.inr h
  have hS : va_S A s.heap s.heap [] := va_S.rf
  have hl := lv_entry ([.ref wy, .ref ro, .ref to, .ref na]) (n := 5) (Nat.le_of_ble_eq_true rfl)
  rw [lg_entry_eq]
  generalize (lg_sl ([.ref wy, .ref ro, .ref to, .ref na]) ++ List.replicate (5 - (lg_sl ([.ref wy, .ref ro, .ref to, .ref na])).length) Slot.unset).toArray = ls at hl ⊢
  have hl : lv_has ls 5 [(0, .ref wy), (1, .ref ro), (2, .ref to), (3, .ref na)] := hl
  refine lv_aload_n hx hb dX5_begin_0 rfl (lv_at hl 2 rfl) ?_
  refine lv_iconst (v := nI 0) hx hb dX5_begin_1 (by decide) ?_
  have hPc := hP.sub (ws' := [(to, .inr (1, [.ref tc, .int (nI tn)])), (tc, .inl (cI, 64, .inl (gA tb)))]) [1, 2] rfl
  have hDc := hD.sub (ws' := [(to, .inr (1, [.ref tc, .int (nI tn)])), (tc, .inl (cI, 64, .inl (gA tb)))]) [1, 2] (by decide) rfl
  refine gv_callR (W.runV (As := [.int (nI 0)]) (rest := []) ⟨hx, hb, hml, hown, hts⟩ (c_X1_wordAt l dC dI cI s.heap.size to tc tn tb 0 (by omega) htb) (cwV 1 hts gX5_begin_X1_wordAt rfl rfl rfl (by decide +kernel) ⟨Nat.le_of_ble_eq_true rfl, Nat.le_of_ble_eq_true rfl⟩) ⟨gPc_blind, va_recv hK hPc (ci := 1) (q0 := 0) rfl rfl, gPc_pre hPc hK hDc⟩ rfl rfl hl.1 rfl (lv_room (Nat.le_of_ble_eq_true rfl)) dX5_begin_2 ⟨Nat.zero_le _, Nat.zero_le _⟩) ?_
  clear hPc hDc
  refine lv_istore (lv' := [(4, .int (nI (pkf tb 0))), (0, .ref wy), (1, .ref ro), (2, .ref to), (3, .ref na)]) hx hb dX5_begin_5 hl (by decide) rfl (fun ls hl => ?_)
  refine lv_aload_n hx hb dX5_begin_7 rfl (lv_at hl 1 rfl) ?_
  refine lv_iload hx hb dX5_begin_8 (lv_at hl 0 rfl) ?_
  refine lv_bipush (v := -16) hx hb dX5_begin_10 (by decide) ?_
  refine gv_top (y := nI 4294967280) (by decide) ?_
  refine gv_iand (r := (pkf tb 0) &&& 4294967280) hx hb dX5_begin_12 rfl ?_
  refine gv_top (y := nI (lfB tb)) (congrArg nI (lf_word (htb _ (by decide)) (htb _ (by decide)) (htb _ (by decide)) (htb _ (by decide)))) ?_
  refine gv_put (own := RX5) (D := (dC, dI)) (ci := 5) (C := RX5) (T := TX5) (N := 4) (ws' := [(wy, .inr (5, [.ref ci, .ref tu, .int (nI (lfB tb)), .int (nI rt)])), (to, .inr (1, [.ref tc, .int (nI tn)])), (tc, .inl (cI, 64, .inl (gA tb)))]) hx hb hts (by decide +kernel) tyX5 tyX5_ok nmX5 hown hK hP hD hS 0 rfl rfl 2 (by decide) (hts (.fieldLink RX5 35 "NumeralCipher$SecondWay" "left" "I") (by decide +kernel)) rfl rfl (by decide +kernel) (Nat.le_of_ble_eq_true rfl) rfl dX5_begin_13 (fun H locs hP hD hS => ?_)
  refine lv_aload_n hx hb dX5_begin_16 rfl (lv_at hl 1 rfl) ?_
  refine lv_aload_n hx hb dX5_begin_17 rfl (lv_at hl 3 rfl) ?_
  refine lv_iconst (v := nI 1) hx hb dX5_begin_18 (by decide) ?_
  have hPc := hP.sub (ws' := [(to, .inr (1, [.ref tc, .int (nI tn)])), (tc, .inl (cI, 64, .inl (gA tb)))]) [1, 2] rfl
  have hDc := hD.sub (ws' := [(to, .inr (1, [.ref tc, .int (nI tn)])), (tc, .inl (cI, 64, .inl (gA tb)))]) [1, 2] (by decide) rfl
  refine gv_callR (W.runV (As := [.int (nI 1)]) (rest := [.ref wy]) ⟨hx, hb, hml, hown, hts⟩ (c_X1_wordAt l dC dI cI H.size to tc tn tb 1 (by omega) htb) (cwV 1 hts gX5_begin_X1_wordAt rfl rfl rfl (by decide +kernel) ⟨Nat.le_of_ble_eq_true rfl, Nat.le_of_ble_eq_true rfl⟩) ⟨gPc_blind, va_recv hK hPc (ci := 1) (q0 := 0) rfl rfl, gPc_pre hPc hK hDc⟩ rfl rfl hl.1 rfl (lv_room (Nat.le_of_ble_eq_true rfl)) dX5_begin_19 ⟨Nat.zero_le _, Nat.zero_le _⟩) ?_
  clear hPc hDc
  refine lv_sipush (v := -256) hx hb dX5_begin_22 (by decide) ?_
  refine gv_top (y := nI 4294967040) (by decide) ?_
  refine gv_iand (r := (pkf tb 1) &&& 4294967040) hx hb dX5_begin_25 rfl ?_
  refine lv_iload hx hb dX5_begin_26 (lv_at hl 0 rfl) ?_
  refine lv_bipush (v := nI 15) hx hb dX5_begin_28 (by decide) ?_
  refine gv_iand (r := (pkf tb 0) &&& 15) hx hb dX5_begin_30 rfl ?_
  refine lv_iconst (v := nI 4) hx hb dX5_begin_31 (by decide) ?_
  refine gv_ishl (r := ((pkf tb 0) &&& 15) * 16) hx hb dX5_begin_32 (by omega) rfl ?_
  refine gv_ior (r := ((pkf tb 1) &&& 4294967040) ||| (((pkf tb 0) &&& 15) * 16)) hx hb dX5_begin_33 rfl ?_
  refine gv_top (y := nI (rtB tb)) (congrArg nI (rt_word (htb _ (by decide)) (htb _ (by decide)) (htb _ (by decide)) (htb _ (by decide)) (htb _ (by decide)) (htb _ (by decide)) (htb _ (by decide)))) ?_
  refine gv_put (own := RX5) (D := (dC, dI)) (ci := 5) (C := RX5) (T := TX5) (N := 4) (ws' := [(wy, .inr (5, [.ref ci, .ref tu, .int (nI (lfB tb)), .int (nI (rtB tb))])), (to, .inr (1, [.ref tc, .int (nI tn)])), (tc, .inl (cI, 64, .inl (gA tb)))]) hx hb hts (by decide +kernel) tyX5 tyX5_ok nmX5 hown hK hP hD hS 0 rfl rfl 3 (by decide) (hts (.fieldLink RX5 38 "NumeralCipher$SecondWay" "right" "I") (by decide +kernel)) rfl rfl (by decide +kernel) (Nat.le_of_ble_eq_true rfl) rfl dX5_begin_34 (fun H locs hP hD hS => ?_)
  exact W.vret hx hb hr (fun t ht hW => ⟨⟨(), rfl, trivial, gB_end ht hW hP hK hD⟩, hS.F ht⟩) hS.2.2 dX5_begin_37

set_option maxHeartbeats 4000000 in
set_option maxRecDepth 100000 in
/-- SecondWay.makeAddend(round, number) -/
theorem c_X5_makeAddend (l : Launch) (dC : Nat → ClassId) (dI : Nat → Nat → Nat) (cI : ClassId) (tS : Nat) (sz : Nat) (wy : Nat) (ci : Nat) (tu : Nat) (sc : Nat) (mv : Nat) (na : Nat) (nc : Nat) (mz : Nat) (r : Nat) (t0 : Nat → Nat) (w : Nat → Nat) (v : Nat → Nat) (f : Nat → Nat) (tb : Nat → Nat) (Wk : Nat → Nat) (i : Nat) (N : Nat) (hr1 : 1 ≤ r) (hr2 : r ≤ 14) (hwk : ∀ k, k < 4 * (r + 1) → w k = pkf Wk k) (hW : ∀ j, j < 16 * (r + 1) → Wk j < 256) (htb : ∀ j, j < 64 → tb j < 256) (hi : i < 8) (hok : NatOk f mz N) : Met l yX5_makeAddend wsX5_makeAddend ({ frames := 3, cells := 0, slots := 0, locals := 65 }) (gPe dC dI cI tS [.ref wy, .int (nI i), .ref na] [(wy, .inr (5, [.ref ci, .ref tu, .int (nI (lfB tb)), .int (nI (rtB tb))])), (tu, .inl (cI, 4, .inl (gA t0))), (ci, .inr (0, [.ref sc, .ref mv, .int (nI r)])), (sc, .inl (cI, 60, .inl (gA w))), (mv, .inl (cI, 4, .inl (gA v))), (na, .inr (3, [.ref nc, .int (nI mz)])), (nc, .inl (cI, 17, .inl (gA f)))] sz) (va_Qv (fun u : (Nat → Nat) × (Nat → Nat) × Nat × (Nat → Nat) => (NatW u.2.2.2 u.2.2.1 (ynum3 (enc Wk r (ff3B tb i N))))) (fun u t => gB dC dI cI (va_A [(wy, .inr (5, [.ref ci, .ref tu, .int (nI (lfB tb)), .int (nI (rtB tb))])), (tu, .inl (cI, 4, .inl (gA t0))), (ci, .inr (0, [.ref sc, .ref mv, .int (nI r)])), (sc, .inl (cI, 60, .inl (gA w))), (mv, .inl (cI, 4, .inl (gA v))), (na, .inr (3, [.ref nc, .int (nI mz)])), (nc, .inl (cI, 17, .inl (gA f)))] sz) [(wy, .inr (5, [.ref ci, .ref tu, .int (nI (lfB tb)), .int (nI (rtB tb))])), (tu, .inl (cI, 4, .inl (gA u.1))), (ci, .inr (0, [.ref sc, .ref mv, .int (nI r)])), (sc, .inl (cI, 60, .inl (gA w))), (mv, .inl (cI, 4, .inl (gA u.2.1))), (na, .inr (3, [.ref nc, .int (nI u.2.2.1)])), (nc, .inl (cI, 17, .inl (gA u.2.2.2)))] t) (va_A [(wy, .inr (5, [.ref ci, .ref tu, .int (nI (lfB tb)), .int (nI (rtB tb))])), (tu, .inl (cI, 4, .inl (gA t0))), (ci, .inr (0, [.ref sc, .ref mv, .int (nI r)])), (sc, .inl (cI, 60, .inl (gA w))), (mv, .inl (cI, 4, .inl (gA v))), (na, .inr (3, [.ref nc, .int (nI mz)])), (nc, .inl (cI, 17, .inl (gA f)))] sz)) 0 0 (va_A [(wy, .inr (5, [.ref ci, .ref tu, .int (nI (lfB tb)), .int (nI (rtB tb))])), (tu, .inl (cI, 4, .inl (gA t0))), (ci, .inr (0, [.ref sc, .ref mv, .int (nI r)])), (sc, .inl (cI, 60, .inl (gA w))), (mv, .inl (cI, 4, .inl (gA v))), (na, .inr (3, [.ref nc, .int (nI mz)])), (nc, .inl (cI, 17, .inl (gA f)))] sz) := by
  refine Met.ofW (cc := cX5_makeAddend) (maxL := 4) (ret := none) (by decide) rfl ?_
  intro p e s m args below meth c s₁ B9 hml hv
  obtain ⟨rfl, hsz, ⟨hP, hK, hD0⟩, hE⟩ := hv
  have hx := B9.exec
  have hb := B9.bytes
  have hr := B9.returns
  have hts := atoms_spec (ws := wsX5_makeAddend) B9.pre
  have hown : s.vm.findClass RX5 = some m.cls := findClass_of_methodNamed B9.named
  have hlocks := B9.notSynchronized
  subst hsz
  have hD := hD0.self (sz := s.heap.size)
  generalize hAe : va_A [(wy, .inr (5, [.ref ci, .ref tu, .int (nI (lfB tb)), .int (nI (rtB tb))])), (tu, .inl (cI, 4, .inl (gA t0))), (ci, .inr (0, [.ref sc, .ref mv, .int (nI r)])), (sc, .inl (cI, 60, .inl (gA w))), (mv, .inl (cI, 4, .inl (gA v))), (na, .inr (3, [.ref nc, .int (nI mz)])), (nc, .inl (cI, 17, .inl (gA f)))] s.heap.size = A at hD hE ⊢
  have hA : ∀ q : Nat, s.heap.size ≤ q → A q := fun q h => by rw [← hAe]; exact Or.inr h
  have hS : va_S A s.heap s.heap [] := va_S.rf
  have hl := lv_entry ([.ref wy, .int (nI i), .ref na]) (n := 4) (Nat.le_of_ble_eq_true rfl)
  rw [lg_entry_eq]
  generalize (lg_sl ([.ref wy, .int (nI i), .ref na]) ++ List.replicate (4 - (lg_sl ([.ref wy, .int (nI i), .ref na])).length) Slot.unset).toArray = ls at hl ⊢
  have hl : lv_has ls 4 [(0, .ref wy), (1, .int (nI i)), (2, .ref na)] := hl
  have hm17 := hok.1
  refine lv_iconst (v := nI 0) hx hb dX5_makeAddend_0 (by decide) ?_
  refine lv_istore_n (lv' := [(3, .int (nI 0)), (0, .ref wy), (1, .int (nI i)), (2, .ref na)]) hx hb dX5_makeAddend_1 rfl hl (by decide) rfl (fun ls hl => ?_)
  refine gw_lab (G := fun R args Q => ∀ (n9_2 : Nat) (k : Nat) (g : Nat → Nat), n9_2 = 3 - k → (k ≤ 3) → (∀ q, q < 4 → g q = if q < k then pkf (ff3B tb i N) q else t0 q) → ∀ (H : Heap) (locs : List Loc), va_P (dC, dI) vwCl [(wy, .inr (5, [.ref ci, .ref tu, .int (nI (lfB tb)), .int (nI (rtB tb))])), (tu, .inl (cI, 4, .inl (gA g))), (ci, .inr (0, [.ref sc, .ref mv, .int (nI r)])), (sc, .inl (cI, 60, .inl (gA w))), (mv, .inl (cI, 4, .inl (gA v))), (na, .inr (3, [.ref nc, .int (nI mz)])), (nc, .inl (cI, 17, .inl (gA f)))] H → va_D A [(wy, .inr (5, [.ref ci, .ref tu, .int (nI (lfB tb)), .int (nI (rtB tb))])), (tu, .inl (cI, 4, .inl (gA g))), (ci, .inr (0, [.ref sc, .ref mv, .int (nI r)])), (sc, .inl (cI, 60, .inl (gA w))), (mv, .inl (cI, 4, .inl (gA v))), (na, .inr (3, [.ref nc, .int (nI mz)])), (nc, .inl (cI, 17, .inl (gA f)))] → va_S A s.heap H locs → ∀ (ls : Array Slot), lv_has ls 4 [(3, .int (nI k)), (0, .ref wy), (1, .int (nI i)), (2, .ref na)] → W p l e R s m args below meth c H locs 0 0 Q (F0 m 2 ls [])) ?_ (fun L2 => ?_)
  ·
    intro n9_2
    induction n9_2 using Nat.strongRecOn with
    | ind n9_2 ih9_2 =>
      intro k g hmu9_2 hk hg H locs hP hD hS ls hl
      refine lv_iload_n hx hb dX5_makeAddend_2 rfl (lv_at hl 0 rfl) ?_
      refine lv_iconst (v := nI 3) hx hb dX5_makeAddend_3 (by decide) ?_
      refine gv_icmp_ge (tgt := 27) hx hb dX5_makeAddend_4 (by decide) (by omega) (by omega) (fun c_4 => ?_) (fun c_4 => ?_)
      ·
        have e9 : k = 3 := by omega
        rw [e9] at hg
        refine lv_aload_n hx hb dX5_makeAddend_27 rfl (lv_at hl 1 rfl) ?_
        refine gv_get (own := RX5) (D := (dC, dI)) (ci := 5) (C := RX5) (T := TX5) (N := 4) (v := .ref tu) hx hb hts (by decide +kernel) hown hK hP 0 rfl rfl 1 (by decide) (hts (.fieldLink RX5 9 "NumeralCipher$SecondWay" "turned" "[I") (by decide +kernel)) rfl rfl dX5_makeAddend_28 ?_
        refine lv_iconst (v := nI 3) hx hb dX5_makeAddend_31 (by decide) ?_
        refine gw_lab (G := fun R args Q =>  ∀ (H : Heap) (locs : List Loc), va_P (dC, dI) vwCl [(wy, .inr (5, [.ref ci, .ref tu, .int (nI (lfB tb)), .int (nI (rtB tb))])), (tu, .inl (cI, 4, .inl (gA g))), (ci, .inr (0, [.ref sc, .ref mv, .int (nI r)])), (sc, .inl (cI, 60, .inl (gA w))), (mv, .inl (cI, 4, .inl (gA v))), (na, .inr (3, [.ref nc, .int (nI mz)])), (nc, .inl (cI, 17, .inl (gA f)))] H → va_D A [(wy, .inr (5, [.ref ci, .ref tu, .int (nI (lfB tb)), .int (nI (rtB tb))])), (tu, .inl (cI, 4, .inl (gA g))), (ci, .inr (0, [.ref sc, .ref mv, .int (nI r)])), (sc, .inl (cI, 60, .inl (gA w))), (mv, .inl (cI, 4, .inl (gA v))), (na, .inr (3, [.ref nc, .int (nI mz)])), (nc, .inl (cI, 17, .inl (gA f)))] → va_S A s.heap H locs → ∀ (ls : Array Slot), lv_has ls 4 [(3, .int (nI k)), (0, .ref wy), (1, .int (nI i)), (2, .ref na)] → W p l e R s m args below meth c H locs 0 0 Q (F0 m 49 ls [.int (nI (if i % 2 = 0 then rtB tb else lfB tb)), .int (nI 3), .ref tu])) ?_ (fun L49 => ?_)
        ·
          intro  H locs hP hD hS ls hl
          refine lv_iload_n hx hb dX5_makeAddend_49 rfl (lv_at hl 2 rfl) ?_
          refine gv_ixor (r := (if i % 2 = 0 then rtB tb else lfB tb) ^^^ i) hx hb dX5_makeAddend_50 rfl ?_
          refine gv_top (y := nI (pk (twT tb i 0) (twT tb i 1) (twT tb i 2) (twT tb i 3 ^^^ i))) (congrArg nI (ff3_x htb (by omega))) ?_
          refine gv_callR (W.runS (As := [.int (nI (pk (twT tb i 0) (twT tb i 1) (twT tb i 2) (twT tb i 3 ^^^ i)))]) (rest := [.int (nI 3), .ref tu]) ⟨hx, hb, hml, hown, hts⟩ (c_X0_bytesTurned l (twT tb i 0) (twT tb i 1) (twT tb i 2) (twT tb i 3 ^^^ i) (twT_lt htb 0 (by decide)) (twT_lt htb 1 (by decide)) (twT_lt htb 2 (by decide)) (wz_x8 (twT_lt htb 3 (by decide)) (by omega))) (va_cwS 1 hts gX5_makeAddend_X0_bytesTurned rfl rfl rfl (by decide +kernel) ⟨Nat.le_of_ble_eq_true rfl, Nat.le_of_ble_eq_true rfl⟩) ⟨fun a U g mk q => q, fun U hU hW => ⟨rfl, trivial⟩⟩ rfl rfl hl.1 rfl (lv_room (Nat.le_of_ble_eq_true rfl)) dX5_makeAddend_51 ⟨Nat.zero_le _, Nat.zero_le _⟩) ?_
          refine gv_iast (ws' := [(wy, .inr (5, [.ref ci, .ref tu, .int (nI (lfB tb)), .int (nI (rtB tb))])), (tu, .inl (cI, 4, .inl (gA (gU g 3 (pk (twT tb i 3 ^^^ i) (twT tb i 2) (twT tb i 1) (twT tb i 0)))))), (ci, .inr (0, [.ref sc, .ref mv, .int (nI r)])), (sc, .inl (cI, 60, .inl (gA w))), (mv, .inl (cI, 4, .inl (gA v))), (na, .inr (3, [.ref nc, .int (nI mz)])), (nc, .inl (cI, 17, .inl (gA f)))]) hx hb hK hP hD hS 1 0 rfl rfl rfl (by omega) (by omega) dX5_makeAddend_54 (fun H locs hP hD hS => ?_)
          refine lv_aload_n hx hb dX5_makeAddend_55 rfl (lv_at hl 1 rfl) ?_
          refine va_get (own := RX5) (D := (dC, dI)) (ci := 5) (C := RX5) (T := TX5) (N := 4) (v := .ref ci) hx hb hts (by decide +kernel) hown hK hP 0 rfl rfl 0 (by decide) (hts (.fieldLink RX5 49 "NumeralCipher$SecondWay" "cipher" "LNumeralCipher$BlockCipher;") (by decide +kernel)) (fun x9 h9 => u_same (hts (.sameField "NumeralCipher$SecondWay" "NumeralCipher$Way" "cipher" "LNumeralCipher$BlockCipher;") (by decide +kernel)) x9 h9) rfl dX5_makeAddend_56 ?_
          refine lv_aload_n hx hb dX5_makeAddend_59 rfl (lv_at hl 1 rfl) ?_
          refine gv_get (own := RX5) (D := (dC, dI)) (ci := 5) (C := RX5) (T := TX5) (N := 4) (v := .ref tu) hx hb hts (by decide +kernel) hown hK hP 0 rfl rfl 1 (by decide) (hts (.fieldLink RX5 9 "NumeralCipher$SecondWay" "turned" "[I") (by decide +kernel)) rfl rfl dX5_makeAddend_60 ?_
          have hst : ∀ q, q < 4 → (gU g 3 (pk (twT tb i 3 ^^^ i) (twT tb i 2) (twT tb i 1) (twT tb i 0))) q = pkf (ff3B tb i N) q := by
            intro q hq
            by_cases e9 : q = 3
            · rw [e9, gU_s]; exact ff3_l tb i N
            · rw [gU_n e9, hg q hq, if_pos (by omega)]
          have hPc := hP.sub (ws' := [(ci, .inr (0, [.ref sc, .ref mv, .int (nI r)])), (sc, .inl (cI, 60, .inl (gA w))), (mv, .inl (cI, 4, .inl (gA v))), (tu, .inl (cI, 4, .inl (gA (gU g 3 (pk (twT tb i 3 ^^^ i) (twT tb i 2) (twT tb i 1) (twT tb i 0))))))]) [2, 3, 4, 1] rfl
          have hDc := hD.sub (ws' := [(ci, .inr (0, [.ref sc, .ref mv, .int (nI r)])), (sc, .inl (cI, 60, .inl (gA w))), (mv, .inl (cI, 4, .inl (gA v))), (tu, .inl (cI, 4, .inl (gA (gU g 3 (pk (twT tb i 3 ^^^ i) (twT tb i 2) (twT tb i 1) (twT tb i 0))))))]) [2, 3, 4, 1] (by decide) rfl
          have hFc := va_free (wc := [(ci, .inr (0, [.ref sc, .ref mv, .int (nI r)])), (sc, .inl (cI, 60, .inl (gA w))), (mv, .inl (cI, 4, .inl (gA v))), (tu, .inl (cI, 4, .inl (gA (gU g 3 (pk (twT tb i 3 ^^^ i) (twT tb i 2) (twT tb i 1) (twT tb i 0))))))]) hD hS hA [2, 3, 4, 1] rfl
          refine va_callv (va_runV (As := [.ref tu]) (rest := []) ⟨hx, hb, hml, hown, hts⟩ (c_X0_encipher l dC dI cI tS H.size ci sc mv tu w v (gU g 3 (pk (twT tb i 3 ^^^ i) (twT tb i 2) (twT tb i 1) (twT tb i 0))) r Wk (ff3B tb i N) hr1 hr2 hwk hW hst (ff3B_lt htb (by omega))) (cwV 1 hts gX5_makeAddend_X0_encipher rfl rfl rfl (by decide +kernel) ⟨Nat.le_of_ble_eq_true rfl, Nat.le_of_ble_eq_true rfl⟩) ⟨gPe_blind, va_recv hK hPc (ci := 0) (q0 := 0) rfl rfl, gPe_pre hPc hK hDc (hE.at hS) hFc⟩ rfl rfl hl.1 rfl (lv_room (Nat.le_of_ble_eq_true rfl)) dX5_makeAddend_63 ⟨Nat.zero_le _, Nat.zero_le _⟩) hS (fun q _ h => hFc q h) hFc (fun u8 t8 H1 locs ht hvm hw hB hz1 hk1 hS => ?_)
          obtain ⟨v9_1, b9_1⟩ := u8
          try dsimp only at hw hB
          obtain ⟨hP, hD⟩ := gB_join (wr := [(wy, .inr (5, [.ref ci, .ref tu, .int (nI (lfB tb)), .int (nI (rtB tb))])), (na, .inr (3, [.ref nc, .int (nI mz)])), (nc, .inl (cI, 17, .inl (gA f)))]) (w2 := [(wy, .inr (5, [.ref ci, .ref tu, .int (nI (lfB tb)), .int (nI (rtB tb))])), (na, .inr (3, [.ref nc, .int (nI mz)])), (nc, .inl (cI, 17, .inl (gA f))), (ci, .inr (0, [.ref sc, .ref mv, .int (nI r)])), (sc, .inl (cI, 60, .inl (gA w))), (mv, .inl (cI, 4, .inl (gA v9_1))), (tu, .inl (cI, 4, .inl (gA b9_1)))]) hP hD [2, 3, 4, 1] [0, 5, 6] rfl rfl (by decide) (by decide) hk1 hFc ht hB rfl
          clear hk1 hz1 ht hB hvm hPc hDc hFc
          generalize H1 = H at hP hS ⊢
          have hbk := hw
          have hEl := encI_lt hW (ff3B_lt (N := N) htb (show i < 256 by omega)) r (Nat.le_refl r)
          refine lv_aload_n hx hb dX5_makeAddend_66 rfl (lv_at hl 3 rfl) ?_
          have hPc := hP.sub (ws' := [(na, .inr (3, [.ref nc, .int (nI mz)])), (nc, .inl (cI, 17, .inl (gA f)))]) [1, 2] rfl
          have hDc := hD.sub (ws' := [(na, .inr (3, [.ref nc, .int (nI mz)])), (nc, .inl (cI, 17, .inl (gA f)))]) [1, 2] (by decide) rfl
          have hFc := va_free (wc := [(na, .inr (3, [.ref nc, .int (nI mz)])), (nc, .inl (cI, 17, .inl (gA f)))]) hD hS hA [1, 2] rfl
          refine va_callv (va_runV (As := []) (rest := []) ⟨hx, hb, hml, hown, hts⟩ (c_X3_clear l dC dI cI H.size na nc mz f ) (cwV 0 hts gX5_makeAddend_X3_clear rfl rfl rfl (by decide +kernel) ⟨Nat.le_of_ble_eq_true rfl, Nat.le_of_ble_eq_true rfl⟩) ⟨gPc_blind, va_recv hK hPc (ci := 3) (q0 := 0) rfl rfl, gPc_pre hPc hK hDc⟩ rfl rfl hl.1 rfl (lv_room (Nat.le_of_ble_eq_true rfl)) dX5_makeAddend_67 ⟨Nat.zero_le _, Nat.zero_le _⟩) hS (fun q _ h => hFc q h) hFc (fun u8 t8 H1 locs ht hvm hw hB hz1 hk1 hS => ?_)
          obtain ⟨f9_2, rfl⟩ : ∃ z, z = u8 := ⟨_, rfl⟩
          try dsimp only at hw hB
          obtain ⟨hP, hD⟩ := gB_join (wr := [(wy, .inr (5, [.ref ci, .ref tu, .int (nI (lfB tb)), .int (nI (rtB tb))])), (ci, .inr (0, [.ref sc, .ref mv, .int (nI r)])), (sc, .inl (cI, 60, .inl (gA w))), (mv, .inl (cI, 4, .inl (gA v9_1))), (tu, .inl (cI, 4, .inl (gA b9_1)))]) (w2 := [(wy, .inr (5, [.ref ci, .ref tu, .int (nI (lfB tb)), .int (nI (rtB tb))])), (ci, .inr (0, [.ref sc, .ref mv, .int (nI r)])), (sc, .inl (cI, 60, .inl (gA w))), (mv, .inl (cI, 4, .inl (gA v9_1))), (tu, .inl (cI, 4, .inl (gA b9_1))), (na, .inr (3, [.ref nc, .int (nI 0)])), (nc, .inl (cI, 17, .inl (gA f9_2)))]) hP hD [1, 2] [0, 3, 4, 5, 6] rfl rfl (by decide) (by decide) hk1 hFc ht hB rfl
          clear hk1 hz1 ht hB hvm hPc hDc hFc
          generalize H1 = H at hP hS ⊢
          have hcl := hw
          refine lv_iconst (v := nI 0) hx hb dX5_makeAddend_70 (by decide) ?_
          refine lv_istore_n (lv' := [(3, .int (nI 0)), (0, .ref wy), (1, .int (nI i)), (2, .ref na)]) hx hb dX5_makeAddend_71 rfl hl (by decide) rfl (fun ls hl => ?_)
          refine gw_lab (G := fun R args Q => ∀ (n9_72 : Nat) (k : Nat) (g2 : Nat → Nat) (mk : Nat), n9_72 = 4 - k → (k ≤ 4) → (UpI (fun q => pk (encI Wk r (ff3B tb i N) r (4 * q + 3)) (encI Wk r (ff3B tb i N) r (4 * q + 2)) (encI Wk r (ff3B tb i N) r (4 * q + 1)) (encI Wk r (ff3B tb i N) r (4 * q))) g2 k mk) → ∀ (H : Heap) (locs : List Loc), va_P (dC, dI) vwCl [(wy, .inr (5, [.ref ci, .ref tu, .int (nI (lfB tb)), .int (nI (rtB tb))])), (ci, .inr (0, [.ref sc, .ref mv, .int (nI r)])), (sc, .inl (cI, 60, .inl (gA w))), (mv, .inl (cI, 4, .inl (gA v9_1))), (tu, .inl (cI, 4, .inl (gA b9_1))), (na, .inr (3, [.ref nc, .int (nI mk)])), (nc, .inl (cI, 17, .inl (gA g2)))] H → va_D A [(wy, .inr (5, [.ref ci, .ref tu, .int (nI (lfB tb)), .int (nI (rtB tb))])), (ci, .inr (0, [.ref sc, .ref mv, .int (nI r)])), (sc, .inl (cI, 60, .inl (gA w))), (mv, .inl (cI, 4, .inl (gA v9_1))), (tu, .inl (cI, 4, .inl (gA b9_1))), (na, .inr (3, [.ref nc, .int (nI mk)])), (nc, .inl (cI, 17, .inl (gA g2)))] → va_S A s.heap H locs → ∀ (ls : Array Slot), lv_has ls 4 [(3, .int (nI k)), (0, .ref wy), (1, .int (nI i)), (2, .ref na)] → W p l e R s m args below meth c H locs 0 0 Q (F0 m 72 ls [])) ?_ (fun L72 => ?_)
          ·
            intro n9_72
            induction n9_72 using Nat.strongRecOn with
            | ind n9_72 ih9_72 =>
              intro k g2 mk hmu9_72 hk hu H locs hP hD hS ls hl
              refine lv_iload_n hx hb dX5_makeAddend_72 rfl (lv_at hl 0 rfl) ?_
              refine lv_iconst (v := nI 4) hx hb dX5_makeAddend_73 (by decide) ?_
              refine gv_icmp_ge (tgt := 97) hx hb dX5_makeAddend_74 (by decide) (by omega) (by omega) (fun c_74 => ?_) (fun c_74 => ?_)
              ·
                have e9 : k = 4 := by omega
                rw [e9] at hu
                have hy := hu.done (by decide) (fun q hq => pkw_lt (hEl _ (by omega)) (hEl _ (by omega)) (hEl _ (by omega)) (hEl _ (by omega)))
                exact W.vret hx hb hr (fun t ht hW => ⟨⟨(b9_1, v9_1, mk, g2), rfl, hy, gB_end ht hW (hP.sub [0, 4, 1, 2, 3, 5, 6] rfl) hK (hD.sub [0, 4, 1, 2, 3, 5, 6] (by decide) rfl)⟩, hS.F ht⟩) hS.2.2 dX5_makeAddend_97
              ·
                refine lv_aload_n hx hb dX5_makeAddend_77 rfl (lv_at hl 3 rfl) ?_
                refine lv_iload_n hx hb dX5_makeAddend_78 rfl (lv_at hl 0 rfl) ?_
                refine lv_aload_n hx hb dX5_makeAddend_79 rfl (lv_at hl 1 rfl) ?_
                refine gv_get (own := RX5) (D := (dC, dI)) (ci := 5) (C := RX5) (T := TX5) (N := 4) (v := .ref tu) hx hb hts (by decide +kernel) hown hK hP 0 rfl rfl 1 (by decide) (hts (.fieldLink RX5 9 "NumeralCipher$SecondWay" "turned" "[I") (by decide +kernel)) rfl rfl dX5_makeAddend_80 ?_
                refine lv_iload_n hx hb dX5_makeAddend_83 rfl (lv_at hl 0 rfl) ?_
                refine gv_iald hx hb hK hP 4 0 rfl rfl (by omega) (by omega) dX5_makeAddend_84 ?_
                refine gv_top (y := nI (pkf (encI Wk r (ff3B tb i N) r) k)) (congrArg nI (hbk k c_74)) ?_
                refine gv_callR (W.runS (As := [.int (nI (pkf (encI Wk r (ff3B tb i N) r) k))]) (rest := [.int (nI k), .ref na]) ⟨hx, hb, hml, hown, hts⟩ (c_X0_bytesTurned l (encI Wk r (ff3B tb i N) r (4 * k)) (encI Wk r (ff3B tb i N) r (4 * k + 1)) (encI Wk r (ff3B tb i N) r (4 * k + 2)) (encI Wk r (ff3B tb i N) r (4 * k + 3)) (hEl _ (by omega)) (hEl _ (by omega)) (hEl _ (by omega)) (hEl _ (by omega))) (va_cwS 1 hts gX5_makeAddend_X0_bytesTurned rfl rfl rfl (by decide +kernel) ⟨Nat.le_of_ble_eq_true rfl, Nat.le_of_ble_eq_true rfl⟩) ⟨fun a U g mk q => q, fun U hU hW => ⟨rfl, trivial⟩⟩ rfl rfl hl.1 rfl (lv_room (Nat.le_of_ble_eq_true rfl)) dX5_makeAddend_85 ⟨Nat.zero_le _, Nat.zero_le _⟩) ?_
                have hmk : mk ≤ 17 := by rw [hu.2]; omega
                have hPc := hP.sub (ws' := [(na, .inr (3, [.ref nc, .int (nI mk)])), (nc, .inl (cI, 17, .inl (gA g2)))]) [5, 6] rfl
                have hDc := hD.sub (ws' := [(na, .inr (3, [.ref nc, .int (nI mk)])), (nc, .inl (cI, 17, .inl (gA g2)))]) [5, 6] (by decide) rfl
                have hFc := va_free (wc := [(na, .inr (3, [.ref nc, .int (nI mk)])), (nc, .inl (cI, 17, .inl (gA g2)))]) hD hS hA [5, 6] rfl
                refine va_callv (va_runV (As := [.int (nI k), .int (nI (pk (encI Wk r (ff3B tb i N) r (4 * k + 3)) (encI Wk r (ff3B tb i N) r (4 * k + 2)) (encI Wk r (ff3B tb i N) r (4 * k + 1)) (encI Wk r (ff3B tb i N) r (4 * k))))]) (rest := []) ⟨hx, hb, hml, hown, hts⟩ (c_X3_putWord l dC dI cI H.size na nc mk g2 k (pk (encI Wk r (ff3B tb i N) r (4 * k + 3)) (encI Wk r (ff3B tb i N) r (4 * k + 2)) (encI Wk r (ff3B tb i N) r (4 * k + 1)) (encI Wk r (ff3B tb i N) r (4 * k))) hmk (by omega)) (cwV 2 hts gX5_makeAddend_X3_putWord rfl rfl rfl (by decide +kernel) ⟨Nat.le_of_ble_eq_true rfl, Nat.le_of_ble_eq_true rfl⟩) ⟨gPc_blind, va_recv hK hPc (ci := 3) (q0 := 0) rfl rfl, gPc_pre hPc hK hDc⟩ rfl rfl hl.1 rfl (lv_room (Nat.le_of_ble_eq_true rfl)) dX5_makeAddend_88 ⟨Nat.zero_le _, Nat.zero_le _⟩) hS (fun q _ h => hFc q h) hFc (fun u8 t8 H1 locs ht hvm hw hB hz1 hk1 hS => ?_)
                try dsimp only at hw hB
                obtain ⟨hP, hD⟩ := gB_join (wr := [(wy, .inr (5, [.ref ci, .ref tu, .int (nI (lfB tb)), .int (nI (rtB tb))])), (ci, .inr (0, [.ref sc, .ref mv, .int (nI r)])), (sc, .inl (cI, 60, .inl (gA w))), (mv, .inl (cI, 4, .inl (gA v9_1))), (tu, .inl (cI, 4, .inl (gA b9_1)))]) (w2 := [(wy, .inr (5, [.ref ci, .ref tu, .int (nI (lfB tb)), .int (nI (rtB tb))])), (ci, .inr (0, [.ref sc, .ref mv, .int (nI r)])), (sc, .inl (cI, 60, .inl (gA w))), (mv, .inl (cI, 4, .inl (gA v9_1))), (tu, .inl (cI, 4, .inl (gA b9_1))), (na, .inr (3, [.ref nc, .int (nI (max mk (k + 1)))])), (nc, .inl (cI, 17, .inl (gA (gU g2 k (pk (encI Wk r (ff3B tb i N) r (4 * k + 3)) (encI Wk r (ff3B tb i N) r (4 * k + 2)) (encI Wk r (ff3B tb i N) r (4 * k + 1)) (encI Wk r (ff3B tb i N) r (4 * k)))))))]) hP hD [5, 6] [0, 1, 2, 3, 4] rfl rfl (by decide) (by decide) hk1 hFc ht hB rfl
                clear hk1 hz1 ht hB hvm hPc hDc hFc
                generalize H1 = H at hP hS ⊢
                refine lv_iinc (v := nI (k + 1)) (lv' := [(3, .int (nI (k + 1))), (0, .ref wy), (1, .int (nI i)), (2, .ref na)]) hx hb dX5_makeAddend_91 hl (k := 0) rfl (gz_inc1 _) (by decide) rfl (fun ls hl => ?_)
                refine lv_goto (tgt := 72) hx hb dX5_makeAddend_94 (by decide) ?_
                exact ih9_72 _ (by omega) (k + 1) (gU g2 k (pk (encI Wk r (ff3B tb i N) r (4 * k + 3)) (encI Wk r (ff3B tb i N) r (4 * k + 2)) (encI Wk r (ff3B tb i N) r (4 * k + 1)) (encI Wk r (ff3B tb i N) r (4 * k)))) (max mk (k + 1)) rfl (by omega) (hu.step rfl) _ _ hP hD hS _ hl
          exact L72 _ 0 f9_2 0 rfl (by omega) (UpI.start hcl) _ _ hP hD hS _ hl
        refine lv_iload_n hx hb dX5_makeAddend_32 rfl (lv_at hl 2 rfl) ?_
        refine lv_iconst (v := nI 2) hx hb dX5_makeAddend_33 (by decide) ?_
        refine gv_irem (r := i % 2) hx hb dX5_makeAddend_34 (by omega) (by omega) (by omega) rfl ?_
        refine gv_if_ne (tgt := 45) hx hb dX5_makeAddend_35 (by decide) (Nat.lt_trans (Nat.mod_lt _ (by decide)) (by decide)) (fun c_35 => ?_) (fun c_35 => ?_)
        ·
          refine lv_aload_n hx hb dX5_makeAddend_45 rfl (lv_at hl 1 rfl) ?_
          refine gv_get (own := RX5) (D := (dC, dI)) (ci := 5) (C := RX5) (T := TX5) (N := 4) (v := .int (nI (lfB tb))) hx hb hts (by decide +kernel) hown hK hP 0 rfl rfl 2 (by decide) (hts (.fieldLink RX5 35 "NumeralCipher$SecondWay" "left" "I") (by decide +kernel)) rfl rfl dX5_makeAddend_46 ?_
          refine gv_top (y := nI (if i % 2 = 0 then rtB tb else lfB tb)) (congrArg nI (if_neg c_35).symm) ?_
          exact L49   _ _ hP hD hS _ hl
        ·
          refine lv_aload_n hx hb dX5_makeAddend_38 rfl (lv_at hl 1 rfl) ?_
          refine gv_get (own := RX5) (D := (dC, dI)) (ci := 5) (C := RX5) (T := TX5) (N := 4) (v := .int (nI (rtB tb))) hx hb hts (by decide +kernel) hown hK hP 0 rfl rfl 3 (by decide) (hts (.fieldLink RX5 38 "NumeralCipher$SecondWay" "right" "I") (by decide +kernel)) rfl rfl dX5_makeAddend_39 ?_
          refine gv_top (y := nI (if i % 2 = 0 then rtB tb else lfB tb)) (congrArg nI (if_pos c_35).symm) ?_
          refine lv_goto (tgt := 49) hx hb dX5_makeAddend_42 (by decide) ?_
          exact L49   _ _ hP hD hS _ hl
      ·
        refine lv_aload_n hx hb dX5_makeAddend_7 rfl (lv_at hl 1 rfl) ?_
        refine gv_get (own := RX5) (D := (dC, dI)) (ci := 5) (C := RX5) (T := TX5) (N := 4) (v := .ref tu) hx hb hts (by decide +kernel) hown hK hP 0 rfl rfl 1 (by decide) (hts (.fieldLink RX5 9 "NumeralCipher$SecondWay" "turned" "[I") (by decide +kernel)) rfl rfl dX5_makeAddend_8 ?_
        refine lv_iload_n hx hb dX5_makeAddend_11 rfl (lv_at hl 0 rfl) ?_
        refine lv_aload_n hx hb dX5_makeAddend_12 rfl (lv_at hl 3 rfl) ?_
        refine lv_iload_n hx hb dX5_makeAddend_13 rfl (lv_at hl 0 rfl) ?_
        have hPc := hP.sub (ws' := [(na, .inr (3, [.ref nc, .int (nI mz)])), (nc, .inl (cI, 17, .inl (gA f)))]) [5, 6] rfl
        have hDc := hD.sub (ws' := [(na, .inr (3, [.ref nc, .int (nI mz)])), (nc, .inl (cI, 17, .inl (gA f)))]) [5, 6] (by decide) rfl
        refine gv_callR (W.runV (As := [.int (nI k)]) (rest := [.int (nI k), .ref tu]) ⟨hx, hb, hml, hown, hts⟩ (c_X3_wordAt l dC dI cI H.size na nc mz f k hm17 (by omega)) (cwV 1 hts gX5_makeAddend_X3_wordAt rfl rfl rfl (by decide +kernel) ⟨Nat.le_of_ble_eq_true rfl, Nat.le_of_ble_eq_true rfl⟩) ⟨gPc_blind, va_recv hK hPc (ci := 3) (q0 := 0) rfl rfl, gPc_pre hPc hK hDc⟩ rfl rfl hl.1 rfl (lv_room (Nat.le_of_ble_eq_true rfl)) dX5_makeAddend_14 ⟨Nat.zero_le _, Nat.zero_le _⟩) ?_
        clear hPc hDc
        refine gv_top (y := nI (pk (N / 256 ^ (4 * k + 3) % 256) (N / 256 ^ (4 * k + 2) % 256) (N / 256 ^ (4 * k + 1) % 256) (N / 256 ^ (4 * k) % 256))) (congrArg nI ((wordAt_eq hok).trans (word_pk N k))) ?_
        refine gv_callR (W.runS (As := [.int (nI (pk (N / 256 ^ (4 * k + 3) % 256) (N / 256 ^ (4 * k + 2) % 256) (N / 256 ^ (4 * k + 1) % 256) (N / 256 ^ (4 * k) % 256)))]) (rest := [.int (nI k), .ref tu]) ⟨hx, hb, hml, hown, hts⟩ (c_X0_bytesTurned l (N / 256 ^ (4 * k + 3) % 256) (N / 256 ^ (4 * k + 2) % 256) (N / 256 ^ (4 * k + 1) % 256) (N / 256 ^ (4 * k) % 256) (Nat.mod_lt _ (by decide)) (Nat.mod_lt _ (by decide)) (Nat.mod_lt _ (by decide)) (Nat.mod_lt _ (by decide))) (va_cwS 1 hts gX5_makeAddend_X0_bytesTurned rfl rfl rfl (by decide +kernel) ⟨Nat.le_of_ble_eq_true rfl, Nat.le_of_ble_eq_true rfl⟩) ⟨fun a U g mk q => q, fun U hU hW => ⟨rfl, trivial⟩⟩ rfl rfl hl.1 rfl (lv_room (Nat.le_of_ble_eq_true rfl)) dX5_makeAddend_17 ⟨Nat.zero_le _, Nat.zero_le _⟩) ?_
        refine gv_top (y := nI (pkf (ff3B tb i N) k)) (congrArg nI (ff3_w c_4)) ?_
        refine gv_iast (ws' := [(wy, .inr (5, [.ref ci, .ref tu, .int (nI (lfB tb)), .int (nI (rtB tb))])), (tu, .inl (cI, 4, .inl (gA (gU g k (pkf (ff3B tb i N) k))))), (ci, .inr (0, [.ref sc, .ref mv, .int (nI r)])), (sc, .inl (cI, 60, .inl (gA w))), (mv, .inl (cI, 4, .inl (gA v))), (na, .inr (3, [.ref nc, .int (nI mz)])), (nc, .inl (cI, 17, .inl (gA f)))]) hx hb hK hP hD hS 1 0 rfl rfl rfl (by omega) (by omega) dX5_makeAddend_20 (fun H locs hP hD hS => ?_)
        refine lv_iinc (v := nI (k + 1)) (lv' := [(3, .int (nI (k + 1))), (0, .ref wy), (1, .int (nI i)), (2, .ref na)]) hx hb dX5_makeAddend_21 hl (k := 0) rfl (gz_inc1 _) (by decide) rfl (fun ls hl => ?_)
        refine lv_goto (tgt := 2) hx hb dX5_makeAddend_24 (by decide) ?_
        exact ih9_2 _ (by omega) (k + 1) (gU g k (pkf (ff3B tb i N) k)) rfl (by omega) (fl_s hg rfl) _ _ hP hD hS _ hl
  exact L2 _ 0 t0 rfl (by omega) (fl_0 (fun _ _ => rfl)) _ _ hP hD hS _ hl
