set_option maxHeartbeats 4000000 in
set_option maxRecDepth 100000 in
/-- FirstWay.inputWord(k, round, number) -/
theorem c_X2_inputWord (l : Launch) (dC : Nat → ClassId) (dI : Nat → Nat → Nat) (cI : ClassId) (sz : Nat) (wy : Nat) (ci : Nat) (tw : Nat) (stt : Nat) (chd : Nat) (spr : Nat) (na : Nat) (nc : Nat) (iw : Nat) (rp : Nat) (aw : Nat) (mz : Nat) (twc : Nat → Nat) (f : Nat → Nat) (tb : Nat → Nat) (k : Nat) (i : Nat) (N : Nat) (b : Nat) (tn : Nat) (hk : k < iw) (hiw : iw ≤ 28) (hrp : rp + b + 1 = 4 * iw) (htn : tn ≤ 32) (ht0 : ∀ j, tn ≤ j → j < 64 → tb j = 0) (htb : ∀ j, j < 64 → tb j < 256) (htw : ∀ q, q < 8 → twc q = pkf tb q) (hi : i < 256) (hok : NatOk f mz N) : Met l yX2_inputWord wsX2_inputWord ({ frames := 1, cells := 0, slots := 0, locals := 21 }) (gPc dC dI cI [.ref wy, .int (nI k), .int (nI i), .ref na] [(wy, .inr (2, [.ref ci, .ref tw, .ref stt, .ref chd, .ref spr, .int (nI iw), .int (nI rp), .int (nI aw)])), (tw, .inl (cI, 8, .inl (gA twc))), (na, .inr (3, [.ref nc, .int (nI mz)])), (nc, .inl (cI, 17, .inl (gA f)))] sz) (QcRead (nI (pkf (msF tb iw b i N) k))) 0 0 (fun _ => False) := by
  refine Met.ofW (cc := cX2_inputWord) (maxL := 5) (ret := (some .int)) (by decide) rfl ?_
  intro p e s m args below meth c s₁ B9 hml hv
  obtain ⟨rfl, hsz, ⟨hP, hK, hD0⟩⟩ := hv
  have hx := B9.exec
  have hb := B9.bytes
  have hr := B9.returns
  have hts := atoms_spec (ws := wsX2_inputWord) B9.pre
  have hown : s.vm.findClass RX2 = some m.cls := findClass_of_methodNamed B9.named
  have hlocks := B9.notSynchronized
  subst hsz
  have hD := hD0.self (sz := s.heap.size)
  generalize hAe : va_A [(wy, .inr (2, [.ref ci, .ref tw, .ref stt, .ref chd, .ref spr, .int (nI iw), .int (nI rp), .int (nI aw)])), (tw, .inl (cI, 8, .inl (gA twc))), (na, .inr (3, [.ref nc, .int (nI mz)])), (nc, .inl (cI, 17, .inl (gA f)))] s.heap.size = A at hD
  have hA : ∀ q : Nat, s.heap.size ≤ q → A q := fun q h => by rw [← hAe]; exact Or.inr h
  have hS : va_S A s.heap s.heap [] := va_S.rf
  have hl := lv_entry ([.ref wy, .int (nI k), .int (nI i), .ref na]) (n := 5) (Nat.le_of_ble_eq_true rfl)
  rw [lg_entry_eq]
  generalize (lg_sl ([.ref wy, .int (nI k), .int (nI i), .ref na]) ++ List.replicate (5 - (lg_sl ([.ref wy, .int (nI k), .int (nI i), .ref na])).length) Slot.unset).toArray = ls at hl ⊢
  have hl : lv_has ls 5 [(0, .ref wy), (1, .int (nI k)), (2, .int (nI i)), (3, .ref na)] := hl
  have hm17 := hok.1
  refine lv_aload_n hx hb dX2_inputWord_0 rfl (lv_at hl 3 rfl) ?_
  refine lv_aload_n hx hb dX2_inputWord_1 rfl (lv_at hl 0 rfl) ?_
  refine gv_get (own := RX2) (D := (dC, dI)) (ci := 2) (C := RX2) (T := TX2) (N := 8) (v := .int (nI iw)) hx hb hts (by decide +kernel) hown hK hP 0 rfl rfl 5 (by decide) (hts (.fieldLink RX2 44 "NumeralCipher$FirstWay" "inputWords" "I") (by decide +kernel)) rfl rfl dX2_inputWord_2 ?_
  refine lv_iconst (v := nI 1) hx hb dX2_inputWord_5 (by decide) ?_
  refine gv_isub (r := iw - 1) hx hb dX2_inputWord_6 (by omega) ?_
  refine lv_iload_n hx hb dX2_inputWord_7 rfl (lv_at hl 1 rfl) ?_
  refine gv_isub (r := (iw - 1) - k) hx hb dX2_inputWord_8 (by omega) ?_
  have hPc := hP.sub (ws' := [(na, .inr (3, [.ref nc, .int (nI mz)])), (nc, .inl (cI, 17, .inl (gA f)))]) [2, 3] rfl
  have hDc := hD.sub (ws' := [(na, .inr (3, [.ref nc, .int (nI mz)])), (nc, .inl (cI, 17, .inl (gA f)))]) [2, 3] (by decide) rfl
  refine gv_callR (W.runV (As := [.int (nI ((iw - 1) - k))]) (rest := []) ⟨hx, hb, hml, hown, hts⟩ (c_X3_wordAt l dC dI cI s.heap.size na nc mz f ((iw - 1) - k) hm17 (by omega)) (cwV 1 hts gX2_inputWord_X3_wordAt rfl rfl rfl (by decide +kernel) ⟨Nat.le_of_ble_eq_true rfl, Nat.le_of_ble_eq_true rfl⟩) ⟨gPc_blind, va_recv hK hPc (ci := 3) (q0 := 0) rfl rfl, gPc_pre hPc hK hDc⟩ rfl rfl hl.1 rfl (lv_room (Nat.le_of_ble_eq_true rfl)) dX2_inputWord_9 ⟨Nat.zero_le _, Nat.zero_le _⟩) ?_
  clear hPc hDc
  refine gv_top (y := nI (pkf (nbF iw N) k)) (congrArg nI ((wordAt_eq hok).trans (nb_word hk))) ?_
  refine lv_istore (lv' := [(4, .int (nI (pkf (nbF iw N) k))), (0, .ref wy), (1, .int (nI k)), (2, .int (nI i)), (3, .ref na)]) hx hb dX2_inputWord_12 hl (by decide) rfl (fun ls hl => ?_)
  refine gw_lab (G := fun R args Q =>  ∀ (ls : Array Slot), lv_has ls 5 [(4, .int (nI (pkf (fun q => nbF iw N q ||| tzF tb q) k))), (0, .ref wy), (1, .int (nI k)), (2, .int (nI i)), (3, .ref na)] → W p l e R s m args below meth c s.heap [] 0 0 Q (F0 m 31 ls [])) ?_ (fun L31 => ?_)
  ·
    intro  ls hl
    refine gw_lab (G := fun R args Q =>  ∀ (ls : Array Slot), lv_has ls 5 [(4, .int (nI (pkf (msF tb iw b i N) k))), (0, .ref wy), (1, .int (nI k)), (2, .int (nI i)), (3, .ref na)] → W p l e R s m args below meth c s.heap [] 0 0 Q (F0 m 60 ls [])) ?_ (fun L60 => ?_)
    ·
      intro  ls hl
      refine lv_iload hx hb dX2_inputWord_60 (lv_at hl 0 rfl) ?_
      exact W.iret (v := (nI (pkf (msF tb iw b i N) k))) hx hb hr (fun t ht hW => ⟨rfl, ht⟩) (fun q h => by cases h) dX2_inputWord_62
    refine lv_iload_n hx hb dX2_inputWord_31 rfl (lv_at hl 2 rfl) ?_
    refine lv_aload_n hx hb dX2_inputWord_32 rfl (lv_at hl 1 rfl) ?_
    refine gv_get (own := RX2) (D := (dC, dI)) (ci := 2) (C := RX2) (T := TX2) (N := 8) (v := .int (nI rp)) hx hb hts (by decide +kernel) hown hK hP 0 rfl rfl 6 (by decide) (hts (.fieldLink RX2 47 "NumeralCipher$FirstWay" "roundPlace" "I") (by decide +kernel)) rfl rfl dX2_inputWord_33 ?_
    refine lv_iconst (v := nI 4) hx hb dX2_inputWord_36 (by decide) ?_
    refine gv_idiv (r := rp / 4) hx hb dX2_inputWord_37 (by omega) (by omega) (by omega) rfl ?_
    refine gv_icmp_ne (tgt := 60) hx hb dX2_inputWord_38 (by decide) (by omega) (by omega) (fun c_38 => ?_) (fun c_38 => ?_)
    ·
      have e5 : pkf (fun q => nbF iw N q ||| tzF tb q) k = pkf (msF tb iw b i N) k := rb_0 hrp c_38
      rw [e5] at hl
      exact L60   _ hl
    ·
      refine lv_iload hx hb dX2_inputWord_41 (lv_at hl 0 rfl) ?_
      refine lv_iload_n hx hb dX2_inputWord_43 rfl (lv_at hl 3 rfl) ?_
      refine lv_bipush (v := nI 24) hx hb dX2_inputWord_44 (by decide) ?_
      refine lv_bipush (v := nI 8) hx hb dX2_inputWord_46 (by decide) ?_
      refine lv_aload_n hx hb dX2_inputWord_48 rfl (lv_at hl 1 rfl) ?_
      refine gv_get (own := RX2) (D := (dC, dI)) (ci := 2) (C := RX2) (T := TX2) (N := 8) (v := .int (nI rp)) hx hb hts (by decide +kernel) hown hK hP 0 rfl rfl 6 (by decide) (hts (.fieldLink RX2 47 "NumeralCipher$FirstWay" "roundPlace" "I") (by decide +kernel)) rfl rfl dX2_inputWord_49 ?_
      refine lv_iconst (v := nI 4) hx hb dX2_inputWord_52 (by decide) ?_
      refine gv_irem (r := rp % 4) hx hb dX2_inputWord_53 (by omega) (by omega) (by omega) rfl ?_
      refine gv_imul (r := 8 * (rp % 4)) hx hb dX2_inputWord_54 rfl ?_
      refine gv_isub (r := 24 - (8 * (rp % 4))) hx hb dX2_inputWord_55 (by omega) ?_
      refine gv_ishl (r := i * (2 ^ (24 - (8 * (rp % 4))))) hx hb dX2_inputWord_56 (by omega) rfl ?_
      refine gv_ior (r := (pkf (fun q => nbF iw N q ||| tzF tb q) k) ||| (i * (2 ^ (24 - (8 * (rp % 4)))))) hx hb dX2_inputWord_57 rfl ?_
      refine gv_top (y := nI (pkf (msF tb iw b i N) k)) (congrArg nI (rb_word (fun q => wz_o8 (nbF_lt iw N q) (tzF_lt htb q)) hi hrp c_38)) ?_
      refine lv_istore (lv' := [(4, .int (nI (pkf (msF tb iw b i N) k))), (0, .ref wy), (1, .int (nI k)), (2, .int (nI i)), (3, .ref na)]) hx hb dX2_inputWord_58 hl (by decide) rfl (fun ls hl => ?_)
      exact L60   _ hl
  refine lv_iload_n hx hb dX2_inputWord_14 rfl (lv_at hl 2 rfl) ?_
  refine lv_bipush (v := nI 8) hx hb dX2_inputWord_15 (by decide) ?_
  refine gv_icmp_ge (tgt := 31) hx hb dX2_inputWord_17 (by decide) (by omega) (by omega) (fun c_17 => ?_) (fun c_17 => ?_)
  ·
    have e4 : pkf (nbF iw N) k = pkf (fun q => nbF iw N q ||| tzF tb q) k := tz_0 ht0 (by omega)
    rw [e4] at hl
    exact L31   _ hl
  ·
    refine lv_iload hx hb dX2_inputWord_20 (lv_at hl 0 rfl) ?_
    refine lv_aload_n hx hb dX2_inputWord_22 rfl (lv_at hl 1 rfl) ?_
    refine gv_get (own := RX2) (D := (dC, dI)) (ci := 2) (C := RX2) (T := TX2) (N := 8) (v := .ref tw) hx hb hts (by decide +kernel) hown hK hP 0 rfl rfl 1 (by decide) (hts (.fieldLink RX2 11 "NumeralCipher$FirstWay" "tweakWords" "[I") (by decide +kernel)) rfl rfl dX2_inputWord_23 ?_
    refine lv_iload_n hx hb dX2_inputWord_26 rfl (lv_at hl 2 rfl) ?_
    refine gv_iald hx hb hK hP 1 0 rfl rfl (by omega) (by omega) dX2_inputWord_27 ?_
    refine gv_top (y := nI (pkf (tzF tb) k)) (congrArg nI ((htw k c_17).trans (tz_word (by omega)))) ?_
    refine gv_ior (r := (pkf (nbF iw N) k) ||| (pkf (tzF tb) k)) hx hb dX2_inputWord_28 rfl ?_
    refine gv_top (y := nI (pkf (fun q => nbF iw N q ||| tzF tb q) k)) (congrArg nI (pkf_or (nbF_lt iw N) (tzF_lt htb))) ?_
    refine lv_istore (lv' := [(4, .int (nI (pkf (fun q => nbF iw N q ||| tzF tb q) k))), (0, .ref wy), (1, .int (nI k)), (2, .int (nI i)), (3, .ref na)]) hx hb dX2_inputWord_29 hl (by decide) rfl (fun ls hl => ?_)
    exact L31   _ hl

set_option maxHeartbeats 4000000 in
set_option maxRecDepth 100000 in
/-- FirstWay.chainInput(round, number) -/
theorem c_X2_chainInput (l : Launch) (dC : Nat → ClassId) (dI : Nat → Nat → Nat) (cI : ClassId) (tS : Nat) (sz : Nat) (wy : Nat) (ci : Nat) (tw : Nat) (stt : Nat) (chd : Nat) (spr : Nat) (sc : Nat) (mv : Nat) (na : Nat) (nc : Nat) (iw : Nat) (rp : Nat) (aw : Nat) (mz : Nat) (r : Nat) (twc : Nat → Nat) (s0 : Nat → Nat) (c0 : Nat → Nat) (w : Nat → Nat) (v : Nat → Nat) (f : Nat → Nat) (tb : Nat → Nat) (Wk : Nat → Nat) (R0 : Nat → Nat) (i : Nat) (N : Nat) (b : Nat) (tn : Nat) (hr1 : 1 ≤ r) (hr2 : r ≤ 14) (hwk : ∀ k, k < 4 * (r + 1) → w k = pkf Wk k) (hW : ∀ j, j < 16 * (r + 1) → Wk j < 256) (hiw : iw ≤ 28) (hrp : rp + b + 1 = 4 * iw) (htn : tn ≤ 32) (ht0 : ∀ j, tn ≤ j → j < 64 → tb j = 0) (htb : ∀ j, j < 64 → tb j < 256) (htw : ∀ q, q < 8 → twc q = pkf tb q) (hi : i < 256) (hok : NatOk f mz N) (hiw4 : iw % 4 = 0) (hs0 : ∀ q, q < 4 → s0 q = pkf R0 q) (hR0 : ∀ j, j < 16 → R0 j < 256) : Met l yX2_chainInput wsX2_chainInput ({ frames := 3, cells := 0, slots := 0, locals := 65 }) (gPe dC dI cI tS [.ref wy, .int (nI i), .ref na] [(wy, .inr (2, [.ref ci, .ref tw, .ref stt, .ref chd, .ref spr, .int (nI iw), .int (nI rp), .int (nI aw)])), (tw, .inl (cI, 8, .inl (gA twc))), (stt, .inl (cI, 4, .inl (gA s0))), (chd, .inl (cI, 4, .inl (gA c0))), (ci, .inr (0, [.ref sc, .ref mv, .int (nI r)])), (sc, .inl (cI, 60, .inl (gA w))), (mv, .inl (cI, 4, .inl (gA v))), (na, .inr (3, [.ref nc, .int (nI mz)])), (nc, .inl (cI, 17, .inl (gA f)))] sz) (va_Qv (fun u : (Nat → Nat) × (Nat → Nat) => (∀ q, q < 4 → u.1 q = pkf (cbcF Wk r R0 (msF tb iw b i N) (iw / 4)) q)) (fun u t => gB dC dI cI (va_A [(wy, .inr (2, [.ref ci, .ref tw, .ref stt, .ref chd, .ref spr, .int (nI iw), .int (nI rp), .int (nI aw)])), (tw, .inl (cI, 8, .inl (gA twc))), (stt, .inl (cI, 4, .inl (gA s0))), (chd, .inl (cI, 4, .inl (gA c0))), (ci, .inr (0, [.ref sc, .ref mv, .int (nI r)])), (sc, .inl (cI, 60, .inl (gA w))), (mv, .inl (cI, 4, .inl (gA v))), (na, .inr (3, [.ref nc, .int (nI mz)])), (nc, .inl (cI, 17, .inl (gA f)))] sz) [(wy, .inr (2, [.ref ci, .ref tw, .ref stt, .ref chd, .ref spr, .int (nI iw), .int (nI rp), .int (nI aw)])), (tw, .inl (cI, 8, .inl (gA twc))), (stt, .inl (cI, 4, .inl (gA s0))), (chd, .inl (cI, 4, .inl (gA u.1))), (ci, .inr (0, [.ref sc, .ref mv, .int (nI r)])), (sc, .inl (cI, 60, .inl (gA w))), (mv, .inl (cI, 4, .inl (gA u.2))), (na, .inr (3, [.ref nc, .int (nI mz)])), (nc, .inl (cI, 17, .inl (gA f)))] t) (va_A [(wy, .inr (2, [.ref ci, .ref tw, .ref stt, .ref chd, .ref spr, .int (nI iw), .int (nI rp), .int (nI aw)])), (tw, .inl (cI, 8, .inl (gA twc))), (stt, .inl (cI, 4, .inl (gA s0))), (chd, .inl (cI, 4, .inl (gA c0))), (ci, .inr (0, [.ref sc, .ref mv, .int (nI r)])), (sc, .inl (cI, 60, .inl (gA w))), (mv, .inl (cI, 4, .inl (gA v))), (na, .inr (3, [.ref nc, .int (nI mz)])), (nc, .inl (cI, 17, .inl (gA f)))] sz)) 0 0 (va_A [(wy, .inr (2, [.ref ci, .ref tw, .ref stt, .ref chd, .ref spr, .int (nI iw), .int (nI rp), .int (nI aw)])), (tw, .inl (cI, 8, .inl (gA twc))), (stt, .inl (cI, 4, .inl (gA s0))), (chd, .inl (cI, 4, .inl (gA c0))), (ci, .inr (0, [.ref sc, .ref mv, .int (nI r)])), (sc, .inl (cI, 60, .inl (gA w))), (mv, .inl (cI, 4, .inl (gA v))), (na, .inr (3, [.ref nc, .int (nI mz)])), (nc, .inl (cI, 17, .inl (gA f)))] sz) := by
  refine Met.ofW (cc := cX2_chainInput) (maxL := 4) (ret := none) (by decide) rfl ?_
  intro p e s m args below meth c s₁ B9 hml hv
  obtain ⟨rfl, hsz, ⟨hP, hK, hD0⟩, hE⟩ := hv
  have hx := B9.exec
  have hb := B9.bytes
  have hr := B9.returns
  have hts := atoms_spec (ws := wsX2_chainInput) B9.pre
  have hown : s.vm.findClass RX2 = some m.cls := findClass_of_methodNamed B9.named
  have hlocks := B9.notSynchronized
  subst hsz
  have hD := hD0.self (sz := s.heap.size)
  generalize hAe : va_A [(wy, .inr (2, [.ref ci, .ref tw, .ref stt, .ref chd, .ref spr, .int (nI iw), .int (nI rp), .int (nI aw)])), (tw, .inl (cI, 8, .inl (gA twc))), (stt, .inl (cI, 4, .inl (gA s0))), (chd, .inl (cI, 4, .inl (gA c0))), (ci, .inr (0, [.ref sc, .ref mv, .int (nI r)])), (sc, .inl (cI, 60, .inl (gA w))), (mv, .inl (cI, 4, .inl (gA v))), (na, .inr (3, [.ref nc, .int (nI mz)])), (nc, .inl (cI, 17, .inl (gA f)))] s.heap.size = A at hD hE ⊢
  have hA : ∀ q : Nat, s.heap.size ≤ q → A q := fun q h => by rw [← hAe]; exact Or.inr h
  have hS : va_S A s.heap s.heap [] := va_S.rf
  have hl := lv_entry ([.ref wy, .int (nI i), .ref na]) (n := 4) (Nat.le_of_ble_eq_true rfl)
  rw [lg_entry_eq]
  generalize (lg_sl ([.ref wy, .int (nI i), .ref na]) ++ List.replicate (4 - (lg_sl ([.ref wy, .int (nI i), .ref na])).length) Slot.unset).toArray = ls at hl ⊢
  have hl : lv_has ls 4 [(0, .ref wy), (1, .int (nI i)), (2, .ref na)] := hl
  refine lv_aload_n hx hb dX2_chainInput_0 rfl (lv_at hl 0 rfl) ?_
  refine gv_get (own := RX2) (D := (dC, dI)) (ci := 2) (C := RX2) (T := TX2) (N := 8) (v := .ref stt) hx hb hts (by decide +kernel) hown hK hP 0 rfl rfl 2 (by decide) (hts (.fieldLink RX2 15 "NumeralCipher$FirstWay" "start" "[I") (by decide +kernel)) rfl rfl dX2_chainInput_1 ?_
  refine lv_iconst (v := nI 0) hx hb dX2_chainInput_4 (by decide) ?_
  refine lv_aload_n hx hb dX2_chainInput_5 rfl (lv_at hl 0 rfl) ?_
  refine gv_get (own := RX2) (D := (dC, dI)) (ci := 2) (C := RX2) (T := TX2) (N := 8) (v := .ref chd) hx hb hts (by decide +kernel) hown hK hP 0 rfl rfl 3 (by decide) (hts (.fieldLink RX2 18 "NumeralCipher$FirstWay" "chained" "[I") (by decide +kernel)) rfl rfl dX2_chainInput_6 ?_
  refine lv_iconst (v := nI 0) hx hb dX2_chainInput_9 (by decide) ?_
  refine lv_iconst (v := nI 4) hx hb dX2_chainInput_10 (by decide) ?_
  refine gv_copy4 (own := RX2) (ws' := [(wy, .inr (2, [.ref ci, .ref tw, .ref stt, .ref chd, .ref spr, .int (nI iw), .int (nI rp), .int (nI aw)])), (tw, .inl (cI, 8, .inl (gA twc))), (stt, .inl (cI, 4, .inl (gA s0))), (chd, .inl (cI, 4, .inl (gA (cp4 s0 c0)))), (ci, .inr (0, [.ref sc, .ref mv, .int (nI r)])), (sc, .inl (cI, 60, .inl (gA w))), (mv, .inl (cI, 4, .inl (gA v))), (na, .inr (3, [.ref nc, .int (nI mz)])), (nc, .inl (cI, 17, .inl (gA f)))]) hx hb (hml.trans hl.1.symm) hown (hts (.methodLink RX2 77 arraycopyName) (by decide +kernel)) (hts (.native arraycopyName) (by decide +kernel)) (hts (.static arraycopyName) (by decide +kernel)) (hts (.initialized "java/lang/System") (by decide +kernel)) hK hP hD hS 2 3 0 rfl rfl rfl rfl (Nat.le_of_ble_eq_true rfl) (Nat.le_of_ble_eq_true rfl) dX2_chainInput_11 (fun H locs hP hD hS => ?_)
  refine lv_iconst (v := nI 0) hx hb dX2_chainInput_14 (by decide) ?_
  refine lv_istore_n (lv' := [(3, .int (nI 0)), (0, .ref wy), (1, .int (nI i)), (2, .ref na)]) hx hb dX2_chainInput_15 rfl hl (by decide) rfl (fun ls hl => ?_)
  refine gw_lab (G := fun R args Q => ∀ (n9_16 : Nat) (k : Nat) (g : Nat → Nat) (v1 : Nat → Nat), n9_16 = iw - k → (k ≤ iw) → (ChI (cbcF Wk r R0 (msF tb iw b i N)) (msF tb iw b i N) g k) → ∀ (H : Heap) (locs : List Loc), va_P (dC, dI) vwCl [(wy, .inr (2, [.ref ci, .ref tw, .ref stt, .ref chd, .ref spr, .int (nI iw), .int (nI rp), .int (nI aw)])), (tw, .inl (cI, 8, .inl (gA twc))), (stt, .inl (cI, 4, .inl (gA s0))), (chd, .inl (cI, 4, .inl (gA g))), (ci, .inr (0, [.ref sc, .ref mv, .int (nI r)])), (sc, .inl (cI, 60, .inl (gA w))), (mv, .inl (cI, 4, .inl (gA v1))), (na, .inr (3, [.ref nc, .int (nI mz)])), (nc, .inl (cI, 17, .inl (gA f)))] H → va_D A [(wy, .inr (2, [.ref ci, .ref tw, .ref stt, .ref chd, .ref spr, .int (nI iw), .int (nI rp), .int (nI aw)])), (tw, .inl (cI, 8, .inl (gA twc))), (stt, .inl (cI, 4, .inl (gA s0))), (chd, .inl (cI, 4, .inl (gA g))), (ci, .inr (0, [.ref sc, .ref mv, .int (nI r)])), (sc, .inl (cI, 60, .inl (gA w))), (mv, .inl (cI, 4, .inl (gA v1))), (na, .inr (3, [.ref nc, .int (nI mz)])), (nc, .inl (cI, 17, .inl (gA f)))] → va_S A s.heap H locs → ∀ (ls : Array Slot), lv_has ls 4 [(3, .int (nI k)), (0, .ref wy), (1, .int (nI i)), (2, .ref na)] → W p l e R s m args below meth c H locs 0 0 Q (F0 m 16 ls [])) ?_ (fun L16 => ?_)
  ·
    intro n9_16
    induction n9_16 using Nat.strongRecOn with
    | ind n9_16 ih9_16 =>
      intro k g v1 hmu9_16 hk hg H locs hP hD hS ls hl
      have hX := cbcF_lt hW hR0 (msF_lt (iw := iw) (b := b) (N := N) htb hi) (k / 4)
      refine lv_iload_n hx hb dX2_chainInput_16 rfl (lv_at hl 0 rfl) ?_
      refine lv_aload_n hx hb dX2_chainInput_17 rfl (lv_at hl 1 rfl) ?_
      refine gv_get (own := RX2) (D := (dC, dI)) (ci := 2) (C := RX2) (T := TX2) (N := 8) (v := .int (nI iw)) hx hb hts (by decide +kernel) hown hK hP 0 rfl rfl 5 (by decide) (hts (.fieldLink RX2 44 "NumeralCipher$FirstWay" "inputWords" "I") (by decide +kernel)) rfl rfl dX2_chainInput_18 ?_
      refine gv_icmp_ge (tgt := 66) hx hb dX2_chainInput_21 (by decide) (by omega) (by omega) (fun c_21 => ?_) (fun c_21 => ?_)
      ·
        have e9 : k = iw := by omega
        rw [e9] at hg
        have hg := hg.done hiw4
        exact W.vret hx hb hr (fun t ht hW => ⟨⟨(g, v1), rfl, hg, gB_end ht hW hP hK hD⟩, hS.F ht⟩) hS.2.2 dX2_chainInput_66
      ·
        refine lv_aload_n hx hb dX2_chainInput_24 rfl (lv_at hl 1 rfl) ?_
        refine gv_get (own := RX2) (D := (dC, dI)) (ci := 2) (C := RX2) (T := TX2) (N := 8) (v := .ref chd) hx hb hts (by decide +kernel) hown hK hP 0 rfl rfl 3 (by decide) (hts (.fieldLink RX2 18 "NumeralCipher$FirstWay" "chained" "[I") (by decide +kernel)) rfl rfl dX2_chainInput_25 ?_
        refine lv_iload_n hx hb dX2_chainInput_28 rfl (lv_at hl 0 rfl) ?_
        refine lv_iconst (v := nI 4) hx hb dX2_chainInput_29 (by decide) ?_
        refine gv_irem (r := k % 4) hx hb dX2_chainInput_30 (by omega) (by omega) (by omega) rfl ?_
        refine lv_dup2_11 hx hb dX2_chainInput_31 rfl rfl ?_
        refine gv_iald hx hb hK hP 3 0 rfl rfl (by omega) (by omega) dX2_chainInput_32 ?_
        refine gv_top (y := nI (pkf (cbcF Wk r R0 (msF tb iw b i N) (k / 4)) (k % 4))) (congrArg nI hg.here) ?_
        refine lv_aload_n hx hb dX2_chainInput_33 rfl (lv_at hl 1 rfl) ?_
        refine lv_iload_n hx hb dX2_chainInput_34 rfl (lv_at hl 0 rfl) ?_
        refine lv_iload_n hx hb dX2_chainInput_35 rfl (lv_at hl 2 rfl) ?_
        refine lv_aload_n hx hb dX2_chainInput_36 rfl (lv_at hl 3 rfl) ?_
        have hPc := hP.sub (ws' := [(wy, .inr (2, [.ref ci, .ref tw, .ref stt, .ref chd, .ref spr, .int (nI iw), .int (nI rp), .int (nI aw)])), (tw, .inl (cI, 8, .inl (gA twc))), (na, .inr (3, [.ref nc, .int (nI mz)])), (nc, .inl (cI, 17, .inl (gA f)))]) [0, 1, 7, 8] rfl
        have hDc := hD.sub (ws' := [(wy, .inr (2, [.ref ci, .ref tw, .ref stt, .ref chd, .ref spr, .int (nI iw), .int (nI rp), .int (nI aw)])), (tw, .inl (cI, 8, .inl (gA twc))), (na, .inr (3, [.ref nc, .int (nI mz)])), (nc, .inl (cI, 17, .inl (gA f)))]) [0, 1, 7, 8] (by decide) rfl
        refine gv_callR (W.runV (As := [.int (nI k), .int (nI i), .ref na]) (rest := [.int (nI (pkf (cbcF Wk r R0 (msF tb iw b i N) (k / 4)) (k % 4))), .int (nI (k % 4)), .ref chd]) ⟨hx, hb, hml, hown, hts⟩ (c_X2_inputWord l dC dI cI H.size wy ci tw stt chd spr na nc iw rp aw mz twc f tb k i N b tn (by omega) hiw hrp htn ht0 htb htw hi hok) (cwV 3 hts gX2_chainInput_X2_inputWord rfl rfl rfl (by decide +kernel) ⟨Nat.le_of_ble_eq_true rfl, Nat.le_of_ble_eq_true rfl⟩) ⟨gPc_blind, va_recv hK hPc (ci := 2) (q0 := 0) rfl rfl, gPc_pre hPc hK hDc⟩ rfl rfl hl.1 rfl (lv_room (Nat.le_of_ble_eq_true rfl)) dX2_chainInput_37 ⟨Nat.zero_le _, Nat.zero_le _⟩) ?_
        clear hPc hDc
        refine gv_ixor (r := (pkf (cbcF Wk r R0 (msF tb iw b i N) (k / 4)) (k % 4)) ^^^ (pkf (msF tb iw b i N) k)) hx hb dX2_chainInput_40 rfl ?_
        refine gv_iast (ws' := [(wy, .inr (2, [.ref ci, .ref tw, .ref stt, .ref chd, .ref spr, .int (nI iw), .int (nI rp), .int (nI aw)])), (tw, .inl (cI, 8, .inl (gA twc))), (stt, .inl (cI, 4, .inl (gA s0))), (chd, .inl (cI, 4, .inl (gA (gU g (k % 4) ((pkf (cbcF Wk r R0 (msF tb iw b i N) (k / 4)) (k % 4)) ^^^ (pkf (msF tb iw b i N) k)))))), (ci, .inr (0, [.ref sc, .ref mv, .int (nI r)])), (sc, .inl (cI, 60, .inl (gA w))), (mv, .inl (cI, 4, .inl (gA v1))), (na, .inr (3, [.ref nc, .int (nI mz)])), (nc, .inl (cI, 17, .inl (gA f)))]) hx hb hK hP hD hS 3 0 rfl rfl rfl (by omega) (by omega) dX2_chainInput_41 (fun H locs hP hD hS => ?_)
        refine gw_lab (G := fun R args Q => ∀ (g2 : Nat → Nat) (v2 : Nat → Nat), (ChI (cbcF Wk r R0 (msF tb iw b i N)) (msF tb iw b i N) g2 (k + 1)) → ∀ (H : Heap) (locs : List Loc), va_P (dC, dI) vwCl [(wy, .inr (2, [.ref ci, .ref tw, .ref stt, .ref chd, .ref spr, .int (nI iw), .int (nI rp), .int (nI aw)])), (tw, .inl (cI, 8, .inl (gA twc))), (stt, .inl (cI, 4, .inl (gA s0))), (chd, .inl (cI, 4, .inl (gA g2))), (ci, .inr (0, [.ref sc, .ref mv, .int (nI r)])), (sc, .inl (cI, 60, .inl (gA w))), (mv, .inl (cI, 4, .inl (gA v2))), (na, .inr (3, [.ref nc, .int (nI mz)])), (nc, .inl (cI, 17, .inl (gA f)))] H → va_D A [(wy, .inr (2, [.ref ci, .ref tw, .ref stt, .ref chd, .ref spr, .int (nI iw), .int (nI rp), .int (nI aw)])), (tw, .inl (cI, 8, .inl (gA twc))), (stt, .inl (cI, 4, .inl (gA s0))), (chd, .inl (cI, 4, .inl (gA g2))), (ci, .inr (0, [.ref sc, .ref mv, .int (nI r)])), (sc, .inl (cI, 60, .inl (gA w))), (mv, .inl (cI, 4, .inl (gA v2))), (na, .inr (3, [.ref nc, .int (nI mz)])), (nc, .inl (cI, 17, .inl (gA f)))] → va_S A s.heap H locs → ∀ (ls : Array Slot), lv_has ls 4 [(3, .int (nI k)), (0, .ref wy), (1, .int (nI i)), (2, .ref na)] → W p l e R s m args below meth c H locs 0 0 Q (F0 m 60 ls [])) ?_ (fun L60 => ?_)
        ·
          intro g2 v2 hg2 H locs hP hD hS ls hl
          refine lv_iinc (v := nI (k + 1)) (lv' := [(3, .int (nI (k + 1))), (0, .ref wy), (1, .int (nI i)), (2, .ref na)]) hx hb dX2_chainInput_60 hl (k := 0) rfl (gz_inc1 _) (by decide) rfl (fun ls hl => ?_)
          refine lv_goto (tgt := 16) hx hb dX2_chainInput_63 (by decide) ?_
          exact ih9_16 _ (by omega) (k + 1) g2 v2 rfl (by omega) hg2 _ _ hP hD hS _ hl
        refine lv_iload_n hx hb dX2_chainInput_42 rfl (lv_at hl 0 rfl) ?_
        refine lv_iconst (v := nI 4) hx hb dX2_chainInput_43 (by decide) ?_
        refine gv_irem (r := k % 4) hx hb dX2_chainInput_44 (by omega) (by omega) (by omega) rfl ?_
        refine lv_iconst (v := nI 3) hx hb dX2_chainInput_45 (by decide) ?_
        refine gv_icmp_ne (tgt := 60) hx hb dX2_chainInput_46 (by decide) (Nat.lt_trans (Nat.mod_lt _ (by decide)) (by decide)) (by decide) (fun c_46 => ?_) (fun c_46 => ?_)
        ·
          exact L60 (gU g (k % 4) ((pkf (cbcF Wk r R0 (msF tb iw b i N) (k / 4)) (k % 4)) ^^^ (pkf (msF tb iw b i N) k))) v1 (hg.step c_46) _ _ hP hD hS _ hl
        ·
          refine lv_aload_n hx hb dX2_chainInput_49 rfl (lv_at hl 1 rfl) ?_
          refine va_get (own := RX2) (D := (dC, dI)) (ci := 2) (C := RX2) (T := TX2) (N := 8) (v := .ref ci) hx hb hts (by decide +kernel) hown hK hP 0 rfl rfl 0 (by decide) (hts (.fieldLink RX2 58 "NumeralCipher$FirstWay" "cipher" "LNumeralCipher$BlockCipher;") (by decide +kernel)) (fun x9 h9 => u_same (hts (.sameField "NumeralCipher$FirstWay" "NumeralCipher$Way" "cipher" "LNumeralCipher$BlockCipher;") (by decide +kernel)) x9 h9) rfl dX2_chainInput_50 ?_
          refine lv_aload_n hx hb dX2_chainInput_53 rfl (lv_at hl 1 rfl) ?_
          refine gv_get (own := RX2) (D := (dC, dI)) (ci := 2) (C := RX2) (T := TX2) (N := 8) (v := .ref chd) hx hb hts (by decide +kernel) hown hK hP 0 rfl rfl 3 (by decide) (hts (.fieldLink RX2 18 "NumeralCipher$FirstWay" "chained" "[I") (by decide +kernel)) rfl rfl dX2_chainInput_54 ?_
          have hPc := hP.sub (ws' := [(ci, .inr (0, [.ref sc, .ref mv, .int (nI r)])), (sc, .inl (cI, 60, .inl (gA w))), (mv, .inl (cI, 4, .inl (gA v1))), (chd, .inl (cI, 4, .inl (gA (gU g (k % 4) ((pkf (cbcF Wk r R0 (msF tb iw b i N) (k / 4)) (k % 4)) ^^^ (pkf (msF tb iw b i N) k))))))]) [4, 5, 6, 3] rfl
          have hDc := hD.sub (ws' := [(ci, .inr (0, [.ref sc, .ref mv, .int (nI r)])), (sc, .inl (cI, 60, .inl (gA w))), (mv, .inl (cI, 4, .inl (gA v1))), (chd, .inl (cI, 4, .inl (gA (gU g (k % 4) ((pkf (cbcF Wk r R0 (msF tb iw b i N) (k / 4)) (k % 4)) ^^^ (pkf (msF tb iw b i N) k))))))]) [4, 5, 6, 3] (by decide) rfl
          have hFc := va_free (wc := [(ci, .inr (0, [.ref sc, .ref mv, .int (nI r)])), (sc, .inl (cI, 60, .inl (gA w))), (mv, .inl (cI, 4, .inl (gA v1))), (chd, .inl (cI, 4, .inl (gA (gU g (k % 4) ((pkf (cbcF Wk r R0 (msF tb iw b i N) (k / 4)) (k % 4)) ^^^ (pkf (msF tb iw b i N) k))))))]) hD hS hA [4, 5, 6, 3] rfl
          refine va_callv (va_runV (As := [.ref chd]) (rest := []) ⟨hx, hb, hml, hown, hts⟩ (c_X0_encipher l dC dI cI tS H.size ci sc mv chd w v1 (gU g (k % 4) ((pkf (cbcF Wk r R0 (msF tb iw b i N) (k / 4)) (k % 4)) ^^^ (pkf (msF tb iw b i N) k))) r Wk (fun j => cbcF Wk r R0 (msF tb iw b i N) (k / 4) j ^^^ (msF tb iw b i N) (16 * (k / 4) + j)) hr1 hr2 hwk hW (hg.full c_46 hX (msF_lt htb hi)) (fun j hj => wz_x8 (hX j hj) (msF_lt htb hi _))) (cwV 1 hts gX2_chainInput_X0_encipher rfl rfl rfl (by decide +kernel) ⟨Nat.le_of_ble_eq_true rfl, Nat.le_of_ble_eq_true rfl⟩) ⟨gPe_blind, va_recv hK hPc (ci := 0) (q0 := 0) rfl rfl, gPe_pre hPc hK hDc (hE.at hS) hFc⟩ rfl rfl hl.1 rfl (lv_room (Nat.le_of_ble_eq_true rfl)) dX2_chainInput_57 ⟨Nat.zero_le _, Nat.zero_le _⟩) hS (fun q _ h => hFc q h) hFc (fun u8 t8 H1 locs ht hvm hw hB hz1 hk1 hS => ?_)
          obtain ⟨v9_1, b9_1⟩ := u8
          try dsimp only at hw hB
          obtain ⟨hP, hD⟩ := gB_join (wr := [(wy, .inr (2, [.ref ci, .ref tw, .ref stt, .ref chd, .ref spr, .int (nI iw), .int (nI rp), .int (nI aw)])), (tw, .inl (cI, 8, .inl (gA twc))), (stt, .inl (cI, 4, .inl (gA s0))), (na, .inr (3, [.ref nc, .int (nI mz)])), (nc, .inl (cI, 17, .inl (gA f)))]) (w2 := [(wy, .inr (2, [.ref ci, .ref tw, .ref stt, .ref chd, .ref spr, .int (nI iw), .int (nI rp), .int (nI aw)])), (tw, .inl (cI, 8, .inl (gA twc))), (stt, .inl (cI, 4, .inl (gA s0))), (na, .inr (3, [.ref nc, .int (nI mz)])), (nc, .inl (cI, 17, .inl (gA f))), (ci, .inr (0, [.ref sc, .ref mv, .int (nI r)])), (sc, .inl (cI, 60, .inl (gA w))), (mv, .inl (cI, 4, .inl (gA v9_1))), (chd, .inl (cI, 4, .inl (gA b9_1)))]) hP hD [4, 5, 6, 3] [0, 1, 2, 7, 8] rfl rfl (by decide) (by decide) hk1 hFc ht hB rfl
          clear hk1 hz1 ht hB hvm hPc hDc hFc
          generalize H1 = H at hP hS ⊢
          have hbk := hw
          exact L60 b9_1 v9_1 (ChI.next c_46 hbk) _ _ (hP.sub [0, 1, 2, 8, 5, 6, 7, 3, 4] rfl) (hD.sub [0, 1, 2, 8, 5, 6, 7, 3, 4] (by decide) rfl) hS _ hl
  exact L16 _ 0 (cp4 s0 c0) v rfl (by omega) (ChI.start (fun q hq => (cp4_lt hq).trans (hs0 q hq))) _ _ hP hD hS _ hl

set_option maxHeartbeats 4000000 in
set_option maxRecDepth 100000 in
/-- FirstWay.makeAddend(round, number) -/
theorem c_X2_makeAddend (l : Launch) (dC : Nat → ClassId) (dI : Nat → Nat → Nat) (cI : ClassId) (tS : Nat) (sz : Nat) (wy : Nat) (ci : Nat) (tw : Nat) (stt : Nat) (chd : Nat) (spr : Nat) (sc : Nat) (mv : Nat) (na : Nat) (nc : Nat) (iw : Nat) (rp : Nat) (aw : Nat) (mz : Nat) (r : Nat) (twc : Nat → Nat) (s0 : Nat → Nat) (c0 : Nat → Nat) (p0 : Nat → Nat) (w : Nat → Nat) (v : Nat → Nat) (f : Nat → Nat) (tb : Nat → Nat) (Wk : Nat → Nat) (R0 : Nat → Nat) (i : Nat) (N : Nat) (b : Nat) (tn : Nat) (hr1 : 1 ≤ r) (hr2 : r ≤ 14) (hwk : ∀ k, k < 4 * (r + 1) → w k = pkf Wk k) (hW : ∀ j, j < 16 * (r + 1) → Wk j < 256) (hiw : iw ≤ 28) (hrp : rp + b + 1 = 4 * iw) (htn : tn ≤ 32) (ht0 : ∀ j, tn ≤ j → j < 64 → tb j = 0) (htb : ∀ j, j < 64 → tb j < 256) (htw : ∀ q, q < 8 → twc q = pkf tb q) (hi : i < 256) (hok : NatOk f mz N) (hiw4 : iw % 4 = 0) (hs0 : ∀ q, q < 4 → s0 q = pkf R0 q) (hR0 : ∀ j, j < 16 → R0 j < 256) (haw1 : 1 ≤ aw) (haw2 : aw ≤ 17) : Met l yX2_makeAddend wsX2_makeAddend ({ frames := 4, cells := 0, slots := 0, locals := 88 }) (gPe dC dI cI tS [.ref wy, .int (nI i), .ref na] [(wy, .inr (2, [.ref ci, .ref tw, .ref stt, .ref chd, .ref spr, .int (nI iw), .int (nI rp), .int (nI aw)])), (tw, .inl (cI, 8, .inl (gA twc))), (stt, .inl (cI, 4, .inl (gA s0))), (chd, .inl (cI, 4, .inl (gA c0))), (spr, .inl (cI, 4, .inl (gA p0))), (ci, .inr (0, [.ref sc, .ref mv, .int (nI r)])), (sc, .inl (cI, 60, .inl (gA w))), (mv, .inl (cI, 4, .inl (gA v))), (na, .inr (3, [.ref nc, .int (nI mz)])), (nc, .inl (cI, 17, .inl (gA f)))] sz) (va_Qv (fun u : (Nat → Nat) × (Nat → Nat) × (Nat → Nat) × Nat × (Nat → Nat) => (NatW u.2.2.2.2 u.2.2.2.1 (ynum (strF Wk r (cbcF Wk r R0 (msF tb iw b i N) (iw / 4))) aw))) (fun u t => gB dC dI cI (va_A [(wy, .inr (2, [.ref ci, .ref tw, .ref stt, .ref chd, .ref spr, .int (nI iw), .int (nI rp), .int (nI aw)])), (tw, .inl (cI, 8, .inl (gA twc))), (stt, .inl (cI, 4, .inl (gA s0))), (chd, .inl (cI, 4, .inl (gA c0))), (spr, .inl (cI, 4, .inl (gA p0))), (ci, .inr (0, [.ref sc, .ref mv, .int (nI r)])), (sc, .inl (cI, 60, .inl (gA w))), (mv, .inl (cI, 4, .inl (gA v))), (na, .inr (3, [.ref nc, .int (nI mz)])), (nc, .inl (cI, 17, .inl (gA f)))] sz) [(wy, .inr (2, [.ref ci, .ref tw, .ref stt, .ref chd, .ref spr, .int (nI iw), .int (nI rp), .int (nI aw)])), (tw, .inl (cI, 8, .inl (gA twc))), (stt, .inl (cI, 4, .inl (gA s0))), (chd, .inl (cI, 4, .inl (gA u.1))), (spr, .inl (cI, 4, .inl (gA u.2.1))), (ci, .inr (0, [.ref sc, .ref mv, .int (nI r)])), (sc, .inl (cI, 60, .inl (gA w))), (mv, .inl (cI, 4, .inl (gA u.2.2.1))), (na, .inr (3, [.ref nc, .int (nI u.2.2.2.1)])), (nc, .inl (cI, 17, .inl (gA u.2.2.2.2)))] t) (va_A [(wy, .inr (2, [.ref ci, .ref tw, .ref stt, .ref chd, .ref spr, .int (nI iw), .int (nI rp), .int (nI aw)])), (tw, .inl (cI, 8, .inl (gA twc))), (stt, .inl (cI, 4, .inl (gA s0))), (chd, .inl (cI, 4, .inl (gA c0))), (spr, .inl (cI, 4, .inl (gA p0))), (ci, .inr (0, [.ref sc, .ref mv, .int (nI r)])), (sc, .inl (cI, 60, .inl (gA w))), (mv, .inl (cI, 4, .inl (gA v))), (na, .inr (3, [.ref nc, .int (nI mz)])), (nc, .inl (cI, 17, .inl (gA f)))] sz)) 0 0 (va_A [(wy, .inr (2, [.ref ci, .ref tw, .ref stt, .ref chd, .ref spr, .int (nI iw), .int (nI rp), .int (nI aw)])), (tw, .inl (cI, 8, .inl (gA twc))), (stt, .inl (cI, 4, .inl (gA s0))), (chd, .inl (cI, 4, .inl (gA c0))), (spr, .inl (cI, 4, .inl (gA p0))), (ci, .inr (0, [.ref sc, .ref mv, .int (nI r)])), (sc, .inl (cI, 60, .inl (gA w))), (mv, .inl (cI, 4, .inl (gA v))), (na, .inr (3, [.ref nc, .int (nI mz)])), (nc, .inl (cI, 17, .inl (gA f)))] sz) := by
  refine Met.ofW (cc := cX2_makeAddend) (maxL := 4) (ret := none) (by decide) rfl ?_
  intro p e s m args below meth c s₁ B9 hml hv
  obtain ⟨rfl, hsz, ⟨hP, hK, hD0⟩, hE⟩ := hv
  have hx := B9.exec
  have hb := B9.bytes
  have hr := B9.returns
  have hts := atoms_spec (ws := wsX2_makeAddend) B9.pre
  have hown : s.vm.findClass RX2 = some m.cls := findClass_of_methodNamed B9.named
  have hlocks := B9.notSynchronized
  subst hsz
  have hD := hD0.self (sz := s.heap.size)
  generalize hAe : va_A [(wy, .inr (2, [.ref ci, .ref tw, .ref stt, .ref chd, .ref spr, .int (nI iw), .int (nI rp), .int (nI aw)])), (tw, .inl (cI, 8, .inl (gA twc))), (stt, .inl (cI, 4, .inl (gA s0))), (chd, .inl (cI, 4, .inl (gA c0))), (spr, .inl (cI, 4, .inl (gA p0))), (ci, .inr (0, [.ref sc, .ref mv, .int (nI r)])), (sc, .inl (cI, 60, .inl (gA w))), (mv, .inl (cI, 4, .inl (gA v))), (na, .inr (3, [.ref nc, .int (nI mz)])), (nc, .inl (cI, 17, .inl (gA f)))] s.heap.size = A at hD hE ⊢
  have hA : ∀ q : Nat, s.heap.size ≤ q → A q := fun q h => by rw [← hAe]; exact Or.inr h
  have hS : va_S A s.heap s.heap [] := va_S.rf
  have hl := lv_entry ([.ref wy, .int (nI i), .ref na]) (n := 4) (Nat.le_of_ble_eq_true rfl)
  rw [lg_entry_eq]
  generalize (lg_sl ([.ref wy, .int (nI i), .ref na]) ++ List.replicate (4 - (lg_sl ([.ref wy, .int (nI i), .ref na])).length) Slot.unset).toArray = ls at hl ⊢
  have hl : lv_has ls 4 [(0, .ref wy), (1, .int (nI i)), (2, .ref na)] := hl
  have hRR := cbcF_lt hW hR0 (msF_lt (iw := iw) (b := b) (N := N) htb hi) (iw / 4)
  refine lv_aload_n hx hb dX2_makeAddend_0 rfl (lv_at hl 0 rfl) ?_
  refine lv_iload_n hx hb dX2_makeAddend_1 rfl (lv_at hl 1 rfl) ?_
  refine lv_aload_n hx hb dX2_makeAddend_2 rfl (lv_at hl 2 rfl) ?_
  have hPc := hP.sub (ws' := [(wy, .inr (2, [.ref ci, .ref tw, .ref stt, .ref chd, .ref spr, .int (nI iw), .int (nI rp), .int (nI aw)])), (tw, .inl (cI, 8, .inl (gA twc))), (stt, .inl (cI, 4, .inl (gA s0))), (chd, .inl (cI, 4, .inl (gA c0))), (ci, .inr (0, [.ref sc, .ref mv, .int (nI r)])), (sc, .inl (cI, 60, .inl (gA w))), (mv, .inl (cI, 4, .inl (gA v))), (na, .inr (3, [.ref nc, .int (nI mz)])), (nc, .inl (cI, 17, .inl (gA f)))]) [0, 1, 2, 3, 5, 6, 7, 8, 9] rfl
  have hDc := hD.sub (ws' := [(wy, .inr (2, [.ref ci, .ref tw, .ref stt, .ref chd, .ref spr, .int (nI iw), .int (nI rp), .int (nI aw)])), (tw, .inl (cI, 8, .inl (gA twc))), (stt, .inl (cI, 4, .inl (gA s0))), (chd, .inl (cI, 4, .inl (gA c0))), (ci, .inr (0, [.ref sc, .ref mv, .int (nI r)])), (sc, .inl (cI, 60, .inl (gA w))), (mv, .inl (cI, 4, .inl (gA v))), (na, .inr (3, [.ref nc, .int (nI mz)])), (nc, .inl (cI, 17, .inl (gA f)))]) [0, 1, 2, 3, 5, 6, 7, 8, 9] (by decide) rfl
  have hFc := va_free (wc := [(wy, .inr (2, [.ref ci, .ref tw, .ref stt, .ref chd, .ref spr, .int (nI iw), .int (nI rp), .int (nI aw)])), (tw, .inl (cI, 8, .inl (gA twc))), (stt, .inl (cI, 4, .inl (gA s0))), (chd, .inl (cI, 4, .inl (gA c0))), (ci, .inr (0, [.ref sc, .ref mv, .int (nI r)])), (sc, .inl (cI, 60, .inl (gA w))), (mv, .inl (cI, 4, .inl (gA v))), (na, .inr (3, [.ref nc, .int (nI mz)])), (nc, .inl (cI, 17, .inl (gA f)))]) hD hS hA [0, 1, 2, 3, 5, 6, 7, 8, 9] rfl
  refine va_callv (va_runV (As := [.int (nI i), .ref na]) (rest := []) ⟨hx, hb, hml, hown, hts⟩ (c_X2_chainInput l dC dI cI tS s.heap.size wy ci tw stt chd spr sc mv na nc iw rp aw mz r twc s0 c0 w v f tb Wk R0 i N b tn hr1 hr2 hwk hW hiw hrp htn ht0 htb htw hi hok hiw4 hs0 hR0) (cwV 2 hts gX2_makeAddend_X2_chainInput rfl rfl rfl (by decide +kernel) ⟨Nat.le_of_ble_eq_true rfl, Nat.le_of_ble_eq_true rfl⟩) ⟨gPe_blind, va_recv hK hPc (ci := 2) (q0 := 0) rfl rfl, gPe_pre hPc hK hDc (hE.at hS) hFc⟩ rfl rfl hl.1 rfl (lv_room (Nat.le_of_ble_eq_true rfl)) dX2_makeAddend_3 ⟨Nat.zero_le _, Nat.zero_le _⟩) hS (fun q _ h => hFc q h) hFc (fun u8 t8 H1 locs ht hvm hw hB hz1 hk1 hS => ?_)
  obtain ⟨c9_1, v9_1⟩ := u8
  try dsimp only at hw hB
  obtain ⟨hP, hD⟩ := gB_join (wr := [(spr, .inl (cI, 4, .inl (gA p0)))]) (w2 := [(spr, .inl (cI, 4, .inl (gA p0))), (wy, .inr (2, [.ref ci, .ref tw, .ref stt, .ref chd, .ref spr, .int (nI iw), .int (nI rp), .int (nI aw)])), (tw, .inl (cI, 8, .inl (gA twc))), (stt, .inl (cI, 4, .inl (gA s0))), (chd, .inl (cI, 4, .inl (gA c9_1))), (ci, .inr (0, [.ref sc, .ref mv, .int (nI r)])), (sc, .inl (cI, 60, .inl (gA w))), (mv, .inl (cI, 4, .inl (gA v9_1))), (na, .inr (3, [.ref nc, .int (nI mz)])), (nc, .inl (cI, 17, .inl (gA f)))]) hP hD [0, 1, 2, 3, 5, 6, 7, 8, 9] [4] rfl rfl (by decide) (by decide) hk1 hFc ht hB rfl
  clear hk1 hz1 ht hB hvm hPc hDc hFc
  generalize H1 = H at hP hS ⊢
  have hc9 := hw
  refine lv_aload_n hx hb dX2_makeAddend_6 rfl (lv_at hl 2 rfl) ?_
  have hPc := hP.sub (ws' := [(na, .inr (3, [.ref nc, .int (nI mz)])), (nc, .inl (cI, 17, .inl (gA f)))]) [8, 9] rfl
  have hDc := hD.sub (ws' := [(na, .inr (3, [.ref nc, .int (nI mz)])), (nc, .inl (cI, 17, .inl (gA f)))]) [8, 9] (by decide) rfl
  have hFc := va_free (wc := [(na, .inr (3, [.ref nc, .int (nI mz)])), (nc, .inl (cI, 17, .inl (gA f)))]) hD hS hA [8, 9] rfl
  refine va_callv (va_runV (As := []) (rest := []) ⟨hx, hb, hml, hown, hts⟩ (c_X3_clear l dC dI cI H.size na nc mz f ) (cwV 0 hts gX2_makeAddend_X3_clear rfl rfl rfl (by decide +kernel) ⟨Nat.le_of_ble_eq_true rfl, Nat.le_of_ble_eq_true rfl⟩) ⟨gPc_blind, va_recv hK hPc (ci := 3) (q0 := 0) rfl rfl, gPc_pre hPc hK hDc⟩ rfl rfl hl.1 rfl (lv_room (Nat.le_of_ble_eq_true rfl)) dX2_makeAddend_7 ⟨Nat.zero_le _, Nat.zero_le _⟩) hS (fun q _ h => hFc q h) hFc (fun u8 t8 H1 locs ht hvm hw hB hz1 hk1 hS => ?_)
  obtain ⟨f9_2, rfl⟩ : ∃ z, z = u8 := ⟨_, rfl⟩
  try dsimp only at hw hB
  obtain ⟨hP, hD⟩ := gB_join (wr := [(spr, .inl (cI, 4, .inl (gA p0))), (wy, .inr (2, [.ref ci, .ref tw, .ref stt, .ref chd, .ref spr, .int (nI iw), .int (nI rp), .int (nI aw)])), (tw, .inl (cI, 8, .inl (gA twc))), (stt, .inl (cI, 4, .inl (gA s0))), (chd, .inl (cI, 4, .inl (gA c9_1))), (ci, .inr (0, [.ref sc, .ref mv, .int (nI r)])), (sc, .inl (cI, 60, .inl (gA w))), (mv, .inl (cI, 4, .inl (gA v9_1)))]) (w2 := [(spr, .inl (cI, 4, .inl (gA p0))), (wy, .inr (2, [.ref ci, .ref tw, .ref stt, .ref chd, .ref spr, .int (nI iw), .int (nI rp), .int (nI aw)])), (tw, .inl (cI, 8, .inl (gA twc))), (stt, .inl (cI, 4, .inl (gA s0))), (chd, .inl (cI, 4, .inl (gA c9_1))), (ci, .inr (0, [.ref sc, .ref mv, .int (nI r)])), (sc, .inl (cI, 60, .inl (gA w))), (mv, .inl (cI, 4, .inl (gA v9_1))), (na, .inr (3, [.ref nc, .int (nI 0)])), (nc, .inl (cI, 17, .inl (gA f9_2)))]) hP hD [8, 9] [0, 1, 2, 3, 4, 5, 6, 7] rfl rfl (by decide) (by decide) hk1 hFc ht hB rfl
  clear hk1 hz1 ht hB hvm hPc hDc hFc
  generalize H1 = H at hP hS ⊢
  have hcl := hw
  refine lv_aload_n hx hb dX2_makeAddend_10 rfl (lv_at hl 0 rfl) ?_
  refine gv_get (own := RX2) (D := (dC, dI)) (ci := 2) (C := RX2) (T := TX2) (N := 8) (v := .ref chd) hx hb hts (by decide +kernel) hown hK hP 1 rfl rfl 3 (by decide) (hts (.fieldLink RX2 18 "NumeralCipher$FirstWay" "chained" "[I") (by decide +kernel)) rfl rfl dX2_makeAddend_11 ?_
  refine lv_iconst (v := nI 0) hx hb dX2_makeAddend_14 (by decide) ?_
  refine lv_aload_n hx hb dX2_makeAddend_15 rfl (lv_at hl 0 rfl) ?_
  refine gv_get (own := RX2) (D := (dC, dI)) (ci := 2) (C := RX2) (T := TX2) (N := 8) (v := .ref spr) hx hb hts (by decide +kernel) hown hK hP 1 rfl rfl 4 (by decide) (hts (.fieldLink RX2 21 "NumeralCipher$FirstWay" "spread" "[I") (by decide +kernel)) rfl rfl dX2_makeAddend_16 ?_
  refine lv_iconst (v := nI 0) hx hb dX2_makeAddend_19 (by decide) ?_
  refine lv_iconst (v := nI 4) hx hb dX2_makeAddend_20 (by decide) ?_
  refine gv_copy4 (own := RX2) (ws' := [(spr, .inl (cI, 4, .inl (gA (cp4 c9_1 p0)))), (wy, .inr (2, [.ref ci, .ref tw, .ref stt, .ref chd, .ref spr, .int (nI iw), .int (nI rp), .int (nI aw)])), (tw, .inl (cI, 8, .inl (gA twc))), (stt, .inl (cI, 4, .inl (gA s0))), (chd, .inl (cI, 4, .inl (gA c9_1))), (ci, .inr (0, [.ref sc, .ref mv, .int (nI r)])), (sc, .inl (cI, 60, .inl (gA w))), (mv, .inl (cI, 4, .inl (gA v9_1))), (na, .inr (3, [.ref nc, .int (nI 0)])), (nc, .inl (cI, 17, .inl (gA f9_2)))]) hx hb (hml.trans hl.1.symm) hown (hts (.methodLink RX2 77 arraycopyName) (by decide +kernel)) (hts (.native arraycopyName) (by decide +kernel)) (hts (.static arraycopyName) (by decide +kernel)) (hts (.initialized "java/lang/System") (by decide +kernel)) hK hP hD hS 4 0 0 rfl rfl rfl rfl (Nat.le_of_ble_eq_true rfl) (Nat.le_of_ble_eq_true rfl) dX2_makeAddend_21 (fun H locs hP hD hS => ?_)
  refine lv_iconst (v := nI 0) hx hb dX2_makeAddend_24 (by decide) ?_
  refine lv_istore_n (lv' := [(3, .int (nI 0)), (0, .ref wy), (1, .int (nI i)), (2, .ref na)]) hx hb dX2_makeAddend_25 rfl hl (by decide) rfl (fun ls hl => ?_)
  refine gw_lab (G := fun R args Q => ∀ (n9_26 : Nat) (k : Nat) (g : Nat → Nat) (mk : Nat) (p1 : Nat → Nat) (v1 : Nat → Nat), n9_26 = aw - k → (k ≤ aw) → (∀ q, q < 4 → p1 q = pkf (strB Wk r (cbcF Wk r R0 (msF tb iw b i N) (iw / 4)) ((k - 1) / 4)) q) → (StI (strF Wk r (cbcF Wk r R0 (msF tb iw b i N) (iw / 4))) g aw k mk) → ∀ (H : Heap) (locs : List Loc), va_P (dC, dI) vwCl [(spr, .inl (cI, 4, .inl (gA p1))), (wy, .inr (2, [.ref ci, .ref tw, .ref stt, .ref chd, .ref spr, .int (nI iw), .int (nI rp), .int (nI aw)])), (tw, .inl (cI, 8, .inl (gA twc))), (stt, .inl (cI, 4, .inl (gA s0))), (chd, .inl (cI, 4, .inl (gA c9_1))), (ci, .inr (0, [.ref sc, .ref mv, .int (nI r)])), (sc, .inl (cI, 60, .inl (gA w))), (mv, .inl (cI, 4, .inl (gA v1))), (na, .inr (3, [.ref nc, .int (nI mk)])), (nc, .inl (cI, 17, .inl (gA g)))] H → va_D A [(spr, .inl (cI, 4, .inl (gA p1))), (wy, .inr (2, [.ref ci, .ref tw, .ref stt, .ref chd, .ref spr, .int (nI iw), .int (nI rp), .int (nI aw)])), (tw, .inl (cI, 8, .inl (gA twc))), (stt, .inl (cI, 4, .inl (gA s0))), (chd, .inl (cI, 4, .inl (gA c9_1))), (ci, .inr (0, [.ref sc, .ref mv, .int (nI r)])), (sc, .inl (cI, 60, .inl (gA w))), (mv, .inl (cI, 4, .inl (gA v1))), (na, .inr (3, [.ref nc, .int (nI mk)])), (nc, .inl (cI, 17, .inl (gA g)))] → va_S A s.heap H locs → ∀ (ls : Array Slot), lv_has ls 4 [(3, .int (nI k)), (0, .ref wy), (1, .int (nI i)), (2, .ref na)] → W p l e R s m args below meth c H locs 0 0 Q (F0 m 26 ls [])) ?_ (fun L26 => ?_)
  ·
    intro n9_26
    induction n9_26 using Nat.strongRecOn with
    | ind n9_26 ih9_26 =>
      intro k g mk p1 v1 hmu9_26 hk hp hg H locs hP hD hS ls hl
      refine lv_iload_n hx hb dX2_makeAddend_26 rfl (lv_at hl 0 rfl) ?_
      refine lv_aload_n hx hb dX2_makeAddend_27 rfl (lv_at hl 1 rfl) ?_
      refine gv_get (own := RX2) (D := (dC, dI)) (ci := 2) (C := RX2) (T := TX2) (N := 8) (v := .int (nI aw)) hx hb hts (by decide +kernel) hown hK hP 1 rfl rfl 7 (by decide) (hts (.fieldLink RX2 38 "NumeralCipher$FirstWay" "addendWords" "I") (by decide +kernel)) rfl rfl dX2_makeAddend_28 ?_
      refine gv_icmp_ge (tgt := 107) hx hb dX2_makeAddend_31 (by decide) (by omega) (by omega) (fun c_31 => ?_) (fun c_31 => ?_)
      ·
        have e9 : k = aw := by omega
        rw [e9] at hg
        have hy := hg.done haw1 haw2 (fun q hq => by rw [pkf_str]; exact pkf_lt (n := 16) (strB_lt hW hRR (by omega)) (by omega))
        exact W.vret hx hb hr (fun t ht hW => ⟨⟨(c9_1, p1, v1, mk, g), rfl, hy, gB_end ht hW (hP.sub [1, 2, 3, 4, 0, 5, 6, 7, 8, 9] rfl) hK (hD.sub [1, 2, 3, 4, 0, 5, 6, 7, 8, 9] (by decide) rfl)⟩, hS.F ht⟩) hS.2.2 dX2_makeAddend_107
      ·
        refine gw_lab (G := fun R args Q => ∀ (p2 : Nat → Nat) (v2 : Nat → Nat), (∀ q, q < 4 → p2 q = pkf (strB Wk r (cbcF Wk r R0 (msF tb iw b i N) (iw / 4)) (k / 4)) q) → ∀ (H : Heap) (locs : List Loc), va_P (dC, dI) vwCl [(spr, .inl (cI, 4, .inl (gA p2))), (wy, .inr (2, [.ref ci, .ref tw, .ref stt, .ref chd, .ref spr, .int (nI iw), .int (nI rp), .int (nI aw)])), (tw, .inl (cI, 8, .inl (gA twc))), (stt, .inl (cI, 4, .inl (gA s0))), (chd, .inl (cI, 4, .inl (gA c9_1))), (ci, .inr (0, [.ref sc, .ref mv, .int (nI r)])), (sc, .inl (cI, 60, .inl (gA w))), (mv, .inl (cI, 4, .inl (gA v2))), (na, .inr (3, [.ref nc, .int (nI mk)])), (nc, .inl (cI, 17, .inl (gA g)))] H → va_D A [(spr, .inl (cI, 4, .inl (gA p2))), (wy, .inr (2, [.ref ci, .ref tw, .ref stt, .ref chd, .ref spr, .int (nI iw), .int (nI rp), .int (nI aw)])), (tw, .inl (cI, 8, .inl (gA twc))), (stt, .inl (cI, 4, .inl (gA s0))), (chd, .inl (cI, 4, .inl (gA c9_1))), (ci, .inr (0, [.ref sc, .ref mv, .int (nI r)])), (sc, .inl (cI, 60, .inl (gA w))), (mv, .inl (cI, 4, .inl (gA v2))), (na, .inr (3, [.ref nc, .int (nI mk)])), (nc, .inl (cI, 17, .inl (gA g)))] → va_S A s.heap H locs → ∀ (ls : Array Slot), lv_has ls 4 [(3, .int (nI k)), (0, .ref wy), (1, .int (nI i)), (2, .ref na)] → W p l e R s m args below meth c H locs 0 0 Q (F0 m 81 ls [])) ?_ (fun L81 => ?_)
        ·
          intro p2 v2 hp2 H locs hP hD hS ls hl
          refine lv_aload_n hx hb dX2_makeAddend_81 rfl (lv_at hl 3 rfl) ?_
          refine lv_aload_n hx hb dX2_makeAddend_82 rfl (lv_at hl 1 rfl) ?_
          refine gv_get (own := RX2) (D := (dC, dI)) (ci := 2) (C := RX2) (T := TX2) (N := 8) (v := .int (nI aw)) hx hb hts (by decide +kernel) hown hK hP 1 rfl rfl 7 (by decide) (hts (.fieldLink RX2 38 "NumeralCipher$FirstWay" "addendWords" "I") (by decide +kernel)) rfl rfl dX2_makeAddend_83 ?_
          refine lv_iconst (v := nI 1) hx hb dX2_makeAddend_86 (by decide) ?_
          refine gv_isub (r := aw - 1) hx hb dX2_makeAddend_87 (by omega) ?_
          refine lv_iload_n hx hb dX2_makeAddend_88 rfl (lv_at hl 0 rfl) ?_
          refine gv_isub (r := (aw - 1) - k) hx hb dX2_makeAddend_89 (by omega) ?_
          refine lv_aload_n hx hb dX2_makeAddend_90 rfl (lv_at hl 1 rfl) ?_
          refine gv_get (own := RX2) (D := (dC, dI)) (ci := 2) (C := RX2) (T := TX2) (N := 8) (v := .ref spr) hx hb hts (by decide +kernel) hown hK hP 1 rfl rfl 4 (by decide) (hts (.fieldLink RX2 21 "NumeralCipher$FirstWay" "spread" "[I") (by decide +kernel)) rfl rfl dX2_makeAddend_91 ?_
          refine lv_iload_n hx hb dX2_makeAddend_94 rfl (lv_at hl 0 rfl) ?_
          refine lv_iconst (v := nI 4) hx hb dX2_makeAddend_95 (by decide) ?_
          refine gv_irem (r := k % 4) hx hb dX2_makeAddend_96 (by omega) (by omega) (by omega) rfl ?_
          refine gv_iald hx hb hK hP 0 0 rfl rfl (Nat.mod_lt _ (by decide)) (by omega) dX2_makeAddend_97 ?_
          refine gv_top (y := nI (pkf (strF Wk r (cbcF Wk r R0 (msF tb iw b i N) (iw / 4))) k)) (congrArg nI ((hp2 _ (Nat.mod_lt _ (by decide))).trans pkf_str.symm)) ?_
          have hmk : mk ≤ 17 := by rcases hg.2 with ⟨q, q2⟩ | ⟨q, q2⟩ <;> omega
          have hPc := hP.sub (ws' := [(na, .inr (3, [.ref nc, .int (nI mk)])), (nc, .inl (cI, 17, .inl (gA g)))]) [8, 9] rfl
          have hDc := hD.sub (ws' := [(na, .inr (3, [.ref nc, .int (nI mk)])), (nc, .inl (cI, 17, .inl (gA g)))]) [8, 9] (by decide) rfl
          have hFc := va_free (wc := [(na, .inr (3, [.ref nc, .int (nI mk)])), (nc, .inl (cI, 17, .inl (gA g)))]) hD hS hA [8, 9] rfl
          refine va_callv (va_runV (As := [.int (nI ((aw - 1) - k)), .int (nI (pkf (strF Wk r (cbcF Wk r R0 (msF tb iw b i N) (iw / 4))) k))]) (rest := []) ⟨hx, hb, hml, hown, hts⟩ (c_X3_putWord l dC dI cI H.size na nc mk g ((aw - 1) - k) (pkf (strF Wk r (cbcF Wk r R0 (msF tb iw b i N) (iw / 4))) k) hmk (by omega)) (cwV 2 hts gX2_makeAddend_X3_putWord rfl rfl rfl (by decide +kernel) ⟨Nat.le_of_ble_eq_true rfl, Nat.le_of_ble_eq_true rfl⟩) ⟨gPc_blind, va_recv hK hPc (ci := 3) (q0 := 0) rfl rfl, gPc_pre hPc hK hDc⟩ rfl rfl hl.1 rfl (lv_room (Nat.le_of_ble_eq_true rfl)) dX2_makeAddend_98 ⟨Nat.zero_le _, Nat.zero_le _⟩) hS (fun q _ h => hFc q h) hFc (fun u8 t8 H1 locs ht hvm hw hB hz1 hk1 hS => ?_)
          try dsimp only at hw hB
          obtain ⟨hP, hD⟩ := gB_join (wr := [(spr, .inl (cI, 4, .inl (gA p2))), (wy, .inr (2, [.ref ci, .ref tw, .ref stt, .ref chd, .ref spr, .int (nI iw), .int (nI rp), .int (nI aw)])), (tw, .inl (cI, 8, .inl (gA twc))), (stt, .inl (cI, 4, .inl (gA s0))), (chd, .inl (cI, 4, .inl (gA c9_1))), (ci, .inr (0, [.ref sc, .ref mv, .int (nI r)])), (sc, .inl (cI, 60, .inl (gA w))), (mv, .inl (cI, 4, .inl (gA v2)))]) (w2 := [(spr, .inl (cI, 4, .inl (gA p2))), (wy, .inr (2, [.ref ci, .ref tw, .ref stt, .ref chd, .ref spr, .int (nI iw), .int (nI rp), .int (nI aw)])), (tw, .inl (cI, 8, .inl (gA twc))), (stt, .inl (cI, 4, .inl (gA s0))), (chd, .inl (cI, 4, .inl (gA c9_1))), (ci, .inr (0, [.ref sc, .ref mv, .int (nI r)])), (sc, .inl (cI, 60, .inl (gA w))), (mv, .inl (cI, 4, .inl (gA v2))), (na, .inr (3, [.ref nc, .int (nI (max mk (((aw - 1) - k) + 1)))])), (nc, .inl (cI, 17, .inl (gA (gU g ((aw - 1) - k) (pkf (strF Wk r (cbcF Wk r R0 (msF tb iw b i N) (iw / 4))) k)))))]) hP hD [8, 9] [0, 1, 2, 3, 4, 5, 6, 7] rfl rfl (by decide) (by decide) hk1 hFc ht hB rfl
          clear hk1 hz1 ht hB hvm hPc hDc hFc
          generalize H1 = H at hP hS ⊢
          refine lv_iinc (v := nI (k + 1)) (lv' := [(3, .int (nI (k + 1))), (0, .ref wy), (1, .int (nI i)), (2, .ref na)]) hx hb dX2_makeAddend_101 hl (k := 0) rfl (gz_inc1 _) (by decide) rfl (fun ls hl => ?_)
          refine lv_goto (tgt := 26) hx hb dX2_makeAddend_104 (by decide) ?_
          exact ih9_26 _ (by omega) (k + 1) (gU g ((aw - 1) - k) (pkf (strF Wk r (cbcF Wk r R0 (msF tb iw b i N) (iw / 4))) k)) (max mk (((aw - 1) - k) + 1)) p2 v2 rfl (by omega) hp2 (hg.step c_31) _ _ hP hD hS _ hl
        refine lv_iload_n hx hb dX2_makeAddend_34 rfl (lv_at hl 0 rfl) ?_
        refine gv_if_le (tgt := 81) hx hb dX2_makeAddend_35 (by decide) (by omega) (fun c_35 => ?_) (fun c_35 => ?_)
        ·
          exact L81 p1 v1 (by rw [show k / 4 = (k - 1) / 4 by omega]; exact hp) _ _ hP hD hS _ hl
        ·
          refine lv_iload_n hx hb dX2_makeAddend_38 rfl (lv_at hl 0 rfl) ?_
          refine lv_iconst (v := nI 4) hx hb dX2_makeAddend_39 (by decide) ?_
          refine gv_irem (r := k % 4) hx hb dX2_makeAddend_40 (by omega) (by omega) (by omega) rfl ?_
          refine gv_if_ne (tgt := 81) hx hb dX2_makeAddend_41 (by decide) (Nat.lt_trans (Nat.mod_lt _ (by decide)) (by decide)) (fun c_41 => ?_) (fun c_41 => ?_)
          ·
            exact L81 p1 v1 (by rw [show k / 4 = (k - 1) / 4 by omega]; exact hp) _ _ hP hD hS _ hl
          ·
            refine lv_aload_n hx hb dX2_makeAddend_44 rfl (lv_at hl 1 rfl) ?_
            refine gv_get (own := RX2) (D := (dC, dI)) (ci := 2) (C := RX2) (T := TX2) (N := 8) (v := .ref chd) hx hb hts (by decide +kernel) hown hK hP 1 rfl rfl 3 (by decide) (hts (.fieldLink RX2 18 "NumeralCipher$FirstWay" "chained" "[I") (by decide +kernel)) rfl rfl dX2_makeAddend_45 ?_
            refine lv_iconst (v := nI 0) hx hb dX2_makeAddend_48 (by decide) ?_
            refine lv_aload_n hx hb dX2_makeAddend_49 rfl (lv_at hl 1 rfl) ?_
            refine gv_get (own := RX2) (D := (dC, dI)) (ci := 2) (C := RX2) (T := TX2) (N := 8) (v := .ref spr) hx hb hts (by decide +kernel) hown hK hP 1 rfl rfl 4 (by decide) (hts (.fieldLink RX2 21 "NumeralCipher$FirstWay" "spread" "[I") (by decide +kernel)) rfl rfl dX2_makeAddend_50 ?_
            refine lv_iconst (v := nI 0) hx hb dX2_makeAddend_53 (by decide) ?_
            refine lv_iconst (v := nI 4) hx hb dX2_makeAddend_54 (by decide) ?_
            refine gv_copy4 (own := RX2) (ws' := [(spr, .inl (cI, 4, .inl (gA (cp4 c9_1 p1)))), (wy, .inr (2, [.ref ci, .ref tw, .ref stt, .ref chd, .ref spr, .int (nI iw), .int (nI rp), .int (nI aw)])), (tw, .inl (cI, 8, .inl (gA twc))), (stt, .inl (cI, 4, .inl (gA s0))), (chd, .inl (cI, 4, .inl (gA c9_1))), (ci, .inr (0, [.ref sc, .ref mv, .int (nI r)])), (sc, .inl (cI, 60, .inl (gA w))), (mv, .inl (cI, 4, .inl (gA v1))), (na, .inr (3, [.ref nc, .int (nI mk)])), (nc, .inl (cI, 17, .inl (gA g)))]) hx hb (hml.trans hl.1.symm) hown (hts (.methodLink RX2 77 arraycopyName) (by decide +kernel)) (hts (.native arraycopyName) (by decide +kernel)) (hts (.static arraycopyName) (by decide +kernel)) (hts (.initialized "java/lang/System") (by decide +kernel)) hK hP hD hS 4 0 0 rfl rfl rfl rfl (Nat.le_of_ble_eq_true rfl) (Nat.le_of_ble_eq_true rfl) dX2_makeAddend_55 (fun H locs hP hD hS => ?_)
            refine lv_aload_n hx hb dX2_makeAddend_58 rfl (lv_at hl 1 rfl) ?_
            refine gv_get (own := RX2) (D := (dC, dI)) (ci := 2) (C := RX2) (T := TX2) (N := 8) (v := .ref spr) hx hb hts (by decide +kernel) hown hK hP 1 rfl rfl 4 (by decide) (hts (.fieldLink RX2 21 "NumeralCipher$FirstWay" "spread" "[I") (by decide +kernel)) rfl rfl dX2_makeAddend_59 ?_
            refine lv_iconst (v := nI 3) hx hb dX2_makeAddend_62 (by decide) ?_
            refine lv_dup2_11 hx hb dX2_makeAddend_63 rfl rfl ?_
            refine gv_iald hx hb hK hP 0 0 rfl rfl (by omega) (by omega) dX2_makeAddend_64 ?_
            refine lv_iload_n hx hb dX2_makeAddend_65 rfl (lv_at hl 0 rfl) ?_
            refine lv_iconst (v := nI 4) hx hb dX2_makeAddend_66 (by decide) ?_
            refine gv_idiv (r := k / 4) hx hb dX2_makeAddend_67 (by omega) (by omega) (by omega) rfl ?_
            refine gv_ixor (r := ((cp4 c9_1 p1) 3) ^^^ (k / 4)) hx hb dX2_makeAddend_68 rfl ?_
            refine gv_iast (ws' := [(spr, .inl (cI, 4, .inl (gA (gU (cp4 c9_1 p1) 3 (((cp4 c9_1 p1) 3) ^^^ (k / 4)))))), (wy, .inr (2, [.ref ci, .ref tw, .ref stt, .ref chd, .ref spr, .int (nI iw), .int (nI rp), .int (nI aw)])), (tw, .inl (cI, 8, .inl (gA twc))), (stt, .inl (cI, 4, .inl (gA s0))), (chd, .inl (cI, 4, .inl (gA c9_1))), (ci, .inr (0, [.ref sc, .ref mv, .int (nI r)])), (sc, .inl (cI, 60, .inl (gA w))), (mv, .inl (cI, 4, .inl (gA v1))), (na, .inr (3, [.ref nc, .int (nI mk)])), (nc, .inl (cI, 17, .inl (gA g)))]) hx hb hK hP hD hS 0 0 rfl rfl rfl (by omega) (by omega) dX2_makeAddend_69 (fun H locs hP hD hS => ?_)
            refine lv_aload_n hx hb dX2_makeAddend_70 rfl (lv_at hl 1 rfl) ?_
            refine va_get (own := RX2) (D := (dC, dI)) (ci := 2) (C := RX2) (T := TX2) (N := 8) (v := .ref ci) hx hb hts (by decide +kernel) hown hK hP 1 rfl rfl 0 (by decide) (hts (.fieldLink RX2 58 "NumeralCipher$FirstWay" "cipher" "LNumeralCipher$BlockCipher;") (by decide +kernel)) (fun x9 h9 => u_same (hts (.sameField "NumeralCipher$FirstWay" "NumeralCipher$Way" "cipher" "LNumeralCipher$BlockCipher;") (by decide +kernel)) x9 h9) rfl dX2_makeAddend_71 ?_
            refine lv_aload_n hx hb dX2_makeAddend_74 rfl (lv_at hl 1 rfl) ?_
            refine gv_get (own := RX2) (D := (dC, dI)) (ci := 2) (C := RX2) (T := TX2) (N := 8) (v := .ref spr) hx hb hts (by decide +kernel) hown hK hP 1 rfl rfl 4 (by decide) (hts (.fieldLink RX2 21 "NumeralCipher$FirstWay" "spread" "[I") (by decide +kernel)) rfl rfl dX2_makeAddend_75 ?_
            have hPc := hP.sub (ws' := [(ci, .inr (0, [.ref sc, .ref mv, .int (nI r)])), (sc, .inl (cI, 60, .inl (gA w))), (mv, .inl (cI, 4, .inl (gA v1))), (spr, .inl (cI, 4, .inl (gA (gU (cp4 c9_1 p1) 3 (((cp4 c9_1 p1) 3) ^^^ (k / 4))))))]) [5, 6, 7, 0] rfl
            have hDc := hD.sub (ws' := [(ci, .inr (0, [.ref sc, .ref mv, .int (nI r)])), (sc, .inl (cI, 60, .inl (gA w))), (mv, .inl (cI, 4, .inl (gA v1))), (spr, .inl (cI, 4, .inl (gA (gU (cp4 c9_1 p1) 3 (((cp4 c9_1 p1) 3) ^^^ (k / 4))))))]) [5, 6, 7, 0] (by decide) rfl
            have hFc := va_free (wc := [(ci, .inr (0, [.ref sc, .ref mv, .int (nI r)])), (sc, .inl (cI, 60, .inl (gA w))), (mv, .inl (cI, 4, .inl (gA v1))), (spr, .inl (cI, 4, .inl (gA (gU (cp4 c9_1 p1) 3 (((cp4 c9_1 p1) 3) ^^^ (k / 4))))))]) hD hS hA [5, 6, 7, 0] rfl
            refine va_callv (va_runV (As := [.ref spr]) (rest := []) ⟨hx, hb, hml, hown, hts⟩ (c_X0_encipher l dC dI cI tS H.size ci sc mv spr w v1 (gU (cp4 c9_1 p1) 3 (((cp4 c9_1 p1) 3) ^^^ (k / 4))) r Wk (fun j => (cbcF Wk r R0 (msF tb iw b i N) (iw / 4)) j ^^^ (if j = 15 then k / 4 else 0)) hr1 hr2 hwk hW (str_in hRR (by omega) (fun q hq => (cp4_lt hq).trans (hc9 q hq))) (fun j hj => wz_x8 (hRR j hj) (by split <;> omega))) (cwV 1 hts gX2_makeAddend_X0_encipher rfl rfl rfl (by decide +kernel) ⟨Nat.le_of_ble_eq_true rfl, Nat.le_of_ble_eq_true rfl⟩) ⟨gPe_blind, va_recv hK hPc (ci := 0) (q0 := 0) rfl rfl, gPe_pre hPc hK hDc (hE.at hS) hFc⟩ rfl rfl hl.1 rfl (lv_room (Nat.le_of_ble_eq_true rfl)) dX2_makeAddend_78 ⟨Nat.zero_le _, Nat.zero_le _⟩) hS (fun q _ h => hFc q h) hFc (fun u8 t8 H1 locs ht hvm hw hB hz1 hk1 hS => ?_)
            obtain ⟨v9_4, b9_4⟩ := u8
            try dsimp only at hw hB
            obtain ⟨hP, hD⟩ := gB_join (wr := [(wy, .inr (2, [.ref ci, .ref tw, .ref stt, .ref chd, .ref spr, .int (nI iw), .int (nI rp), .int (nI aw)])), (tw, .inl (cI, 8, .inl (gA twc))), (stt, .inl (cI, 4, .inl (gA s0))), (chd, .inl (cI, 4, .inl (gA c9_1))), (na, .inr (3, [.ref nc, .int (nI mk)])), (nc, .inl (cI, 17, .inl (gA g)))]) (w2 := [(wy, .inr (2, [.ref ci, .ref tw, .ref stt, .ref chd, .ref spr, .int (nI iw), .int (nI rp), .int (nI aw)])), (tw, .inl (cI, 8, .inl (gA twc))), (stt, .inl (cI, 4, .inl (gA s0))), (chd, .inl (cI, 4, .inl (gA c9_1))), (na, .inr (3, [.ref nc, .int (nI mk)])), (nc, .inl (cI, 17, .inl (gA g))), (ci, .inr (0, [.ref sc, .ref mv, .int (nI r)])), (sc, .inl (cI, 60, .inl (gA w))), (mv, .inl (cI, 4, .inl (gA v9_4))), (spr, .inl (cI, 4, .inl (gA b9_4)))]) hP hD [5, 6, 7, 0] [1, 2, 3, 4, 8, 9] rfl rfl (by decide) (by decide) hk1 hFc ht hB rfl
            clear hk1 hz1 ht hB hvm hPc hDc hFc
            generalize H1 = H at hP hS ⊢
            have hbk := hw
            exact L81 b9_4 v9_4 (by rw [str_is (show k / 4 ≠ 0 by omega)]; exact hbk) _ _ (hP.sub [9, 0, 1, 2, 3, 6, 7, 8, 4, 5] rfl) (hD.sub [9, 0, 1, 2, 3, 6, 7, 8, 4, 5] (by decide) rfl) hS _ hl
  exact L26 _ 0 f9_2 0 (cp4 c9_1 p0) v9_1 rfl (by omega) (fun q hq => (cp4_lt hq).trans (hc9 q hq)) (StI.start hcl) _ _ hP hD hS _ hl
