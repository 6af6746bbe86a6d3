set_option maxHeartbeats 4000000 in
set_option maxRecDepth 100000 in
/-- makeWords(turned) -/
theorem c_X8_makeWords (l : Launch) (dC : Nat → ClassId) (dI : Nat → Nat → Nat) (cI : ClassId) (sz : Nat) (mo : Nat) (abuf : Nat) (akey : Nat) (atwk : Nat) (arow : Nat) (abox : Nat) (awrd : Nat) (ablk : Nat) (amov : Nat) (ahA : Nat) (ahB : Nat) (ahC : Nat) (anum : Nat) (amsg : Nat) (astr : Nat) (th : Nat) (by_ : Nat) (ks : Nat) (ts : Nat) (rx : Nat) (mn : Nat) (rd : Nat) (za : Nat) (zb : Nat) (kb : Nat → Nat) (bx : Nat → Nat) (w0 : Nat → Nat) (t : Nat) (hks : ks = 16 ∨ ks = 24 ∨ ks = 32) (hkb : ∀ q, q < 32 → kb q < 256) (hbx : ∀ q, q < 256 → bx q = sB q) (ht : t ≤ 1) : Met l yX8_makeWords wsX8_makeWords ({ frames := 1, cells := 0, slots := 0, locals := 23 }) (gPc dC dI cI [.ref mo, .int (nI t)] [(mo, .inr (7, [.int (nI th), .int (nI by_), .ref abuf, .int (nI ks), .ref akey, .int (nI ts), .ref atwk, .int (nI rx), .int (nI mn), .ref arow, .ref abox, .ref awrd, .int (nI rd), .ref ablk, .ref amov, .int (nI za), .int (nI zb), .ref ahA, .ref ahB, .ref ahC, .ref anum, .ref amsg, .ref astr])), (akey, .inl (cI, 32, .inl (gA kb))), (abox, .inl (cI, 256, .inl (gA bx))), (awrd, .inl (cI, 240, .inl (gA w0)))] sz) (va_Qv (fun u : (Nat → Nat) => (∀ q, q < 16 * (ks / 4 + 7) → u q = ksS (keyK t kb (ks / 4)) (ks / 4) (3 * (ks / 4) + 28) q)) (fun u t => gB dC dI cI (va_A [(mo, .inr (7, [.int (nI th), .int (nI by_), .ref abuf, .int (nI ks), .ref akey, .int (nI ts), .ref atwk, .int (nI rx), .int (nI mn), .ref arow, .ref abox, .ref awrd, .int (nI rd), .ref ablk, .ref amov, .int (nI za), .int (nI zb), .ref ahA, .ref ahB, .ref ahC, .ref anum, .ref amsg, .ref astr])), (akey, .inl (cI, 32, .inl (gA kb))), (abox, .inl (cI, 256, .inl (gA bx))), (awrd, .inl (cI, 240, .inl (gA w0)))] sz) [(mo, .inr (7, [.int (nI th), .int (nI by_), .ref abuf, .int (nI ks), .ref akey, .int (nI ts), .ref atwk, .int (nI rx), .int (nI mn), .ref arow, .ref abox, .ref awrd, .int (nI (ks / 4 + 6)), .ref ablk, .ref amov, .int (nI za), .int (nI zb), .ref ahA, .ref ahB, .ref ahC, .ref anum, .ref amsg, .ref astr])), (akey, .inl (cI, 32, .inl (gA kb))), (abox, .inl (cI, 256, .inl (gA bx))), (awrd, .inl (cI, 240, .inl (gA u)))] t) (va_A [(mo, .inr (7, [.int (nI th), .int (nI by_), .ref abuf, .int (nI ks), .ref akey, .int (nI ts), .ref atwk, .int (nI rx), .int (nI mn), .ref arow, .ref abox, .ref awrd, .int (nI rd), .ref ablk, .ref amov, .int (nI za), .int (nI zb), .ref ahA, .ref ahB, .ref ahC, .ref anum, .ref amsg, .ref astr])), (akey, .inl (cI, 32, .inl (gA kb))), (abox, .inl (cI, 256, .inl (gA bx))), (awrd, .inl (cI, 240, .inl (gA w0)))] sz)) 0 0 (va_A [(mo, .inr (7, [.int (nI th), .int (nI by_), .ref abuf, .int (nI ks), .ref akey, .int (nI ts), .ref atwk, .int (nI rx), .int (nI mn), .ref arow, .ref abox, .ref awrd, .int (nI rd), .ref ablk, .ref amov, .int (nI za), .int (nI zb), .ref ahA, .ref ahB, .ref ahC, .ref anum, .ref amsg, .ref astr])), (akey, .inl (cI, 32, .inl (gA kb))), (abox, .inl (cI, 256, .inl (gA bx))), (awrd, .inl (cI, 240, .inl (gA w0)))] sz) := by
  refine Met.ofW (cc := cX8_makeWords) (maxL := 10) (ret := none) (by decide) rfl ?_
  intro p e s m args below meth c s₁ B9 hml hv
  obtain ⟨rfl, hsz, ⟨hP, hK, hD0⟩⟩ := hv
  have hx := B9.exec
  have hb := B9.bytes
  have hr := B9.returns
  have hts := atoms_spec (ws := wsX8_makeWords) B9.pre
  have hown : s.vm.findClass RX8 = some m.cls := findClass_of_methodNamed B9.named
  have hlocks := B9.notSynchronized
  subst hsz
  have hD := hD0.self (sz := s.heap.size)
  generalize hAe : va_A [(mo, .inr (7, [.int (nI th), .int (nI by_), .ref abuf, .int (nI ks), .ref akey, .int (nI ts), .ref atwk, .int (nI rx), .int (nI mn), .ref arow, .ref abox, .ref awrd, .int (nI rd), .ref ablk, .ref amov, .int (nI za), .int (nI zb), .ref ahA, .ref ahB, .ref ahC, .ref anum, .ref amsg, .ref astr])), (akey, .inl (cI, 32, .inl (gA kb))), (abox, .inl (cI, 256, .inl (gA bx))), (awrd, .inl (cI, 240, .inl (gA w0)))] s.heap.size = A at hD ⊢
  have hA : ∀ q : Nat, s.heap.size ≤ q → A q := fun q h => by rw [← hAe]; exact Or.inr h
  have hS : va_S A s.heap s.heap [] := va_S.rf
  have hl := lv_entry ([.ref mo, .int (nI t)]) (n := 10) (Nat.le_of_ble_eq_true rfl)
  rw [lg_entry_eq]
  generalize (lg_sl ([.ref mo, .int (nI t)]) ++ List.replicate (10 - (lg_sl ([.ref mo, .int (nI t)])).length) Slot.unset).toArray = ls at hl ⊢
  have hl : lv_has ls 10 [(0, .ref mo), (1, .int (nI t))] := hl
  have hKK : ∀ q, q < 4 * (ks / 4) → (keyK t kb (ks / 4)) q < 256 := by intro q hq; unfold keyK; split <;> exact hkb _ (by omega)
  refine lv_aload_n hx hb dX8_makeWords_0 rfl (lv_at hl 0 rfl) ?_
  refine gv_get (own := RX8) (D := (dC, dI)) (ci := 7) (C := RX8) (T := TX8) (N := 23) (v := .int (nI ks)) hx hb hts (by decide +kernel) hown hK hP 0 rfl rfl 3 (by decide) (hts (.fieldLink RX8 13 "NumeralCipherModel" "keySize" "I") (by decide +kernel)) rfl rfl dX8_makeWords_1 ?_
  refine lv_iconst (v := nI 4) hx hb dX8_makeWords_4 (by decide) ?_
  refine gv_idiv (r := ks / 4) hx hb dX8_makeWords_5 (by omega) (by omega) (by omega) rfl ?_
  refine lv_istore_n (lv' := [(2, .int (nI (ks / 4))), (0, .ref mo), (1, .int (nI t))]) hx hb dX8_makeWords_6 rfl hl (by decide) rfl (fun ls hl => ?_)
  refine lv_aload_n hx hb dX8_makeWords_7 rfl (lv_at hl 1 rfl) ?_
  refine lv_iload_n hx hb dX8_makeWords_8 rfl (lv_at hl 0 rfl) ?_
  refine lv_bipush (v := nI 6) hx hb dX8_makeWords_9 (by decide) ?_
  refine gv_iadd (r := (ks / 4) + 6) hx hb dX8_makeWords_11 rfl ?_
  refine gv_put (own := RX8) (D := (dC, dI)) (ci := 7) (C := RX8) (T := TX8) (N := 23) (ws' := [(mo, .inr (7, [.int (nI th), .int (nI by_), .ref abuf, .int (nI ks), .ref akey, .int (nI ts), .ref atwk, .int (nI rx), .int (nI mn), .ref arow, .ref abox, .ref awrd, .int (nI ((ks / 4) + 6)), .ref ablk, .ref amov, .int (nI za), .int (nI zb), .ref ahA, .ref ahB, .ref ahC, .ref anum, .ref amsg, .ref astr])), (akey, .inl (cI, 32, .inl (gA kb))), (abox, .inl (cI, 256, .inl (gA bx))), (awrd, .inl (cI, 240, .inl (gA w0)))]) hx hb hts (by decide +kernel) tyX8 tyX8_ok nmX8 hown hK hP hD hS 0 rfl rfl 12 (by decide) (hts (.fieldLink RX8 70 "NumeralCipherModel" "rounds" "I") (by decide +kernel)) rfl rfl (by decide +kernel) (Nat.le_of_ble_eq_true rfl) rfl dX8_makeWords_12 (fun H locs hP hD hS => ?_)
  refine lv_iconst (v := nI 0) hx hb dX8_makeWords_15 (by decide) ?_
  refine lv_istore_n (lv' := [(3, .int (nI 0)), (2, .int (nI (ks / 4))), (0, .ref mo), (1, .int (nI t))]) hx hb dX8_makeWords_16 rfl hl (by decide) rfl (fun ls hl => ?_)
  refine gw_lab (G := fun R args Q => ∀ (n9_17 : Nat) (i : Nat) (f : Nat → Nat), n9_17 = ks - i → (i ≤ ks) → (∀ q, q < 240 → f q = if q < i then (keyK t kb (ks / 4)) q else w0 q) → ∀ (H : Heap) (locs : List Loc), va_P (dC, dI) vwCl [(mo, .inr (7, [.int (nI th), .int (nI by_), .ref abuf, .int (nI ks), .ref akey, .int (nI ts), .ref atwk, .int (nI rx), .int (nI mn), .ref arow, .ref abox, .ref awrd, .int (nI (ks / 4 + 6)), .ref ablk, .ref amov, .int (nI za), .int (nI zb), .ref ahA, .ref ahB, .ref ahC, .ref anum, .ref amsg, .ref astr])), (akey, .inl (cI, 32, .inl (gA kb))), (abox, .inl (cI, 256, .inl (gA bx))), (awrd, .inl (cI, 240, .inl (gA f)))] H → va_D A [(mo, .inr (7, [.int (nI th), .int (nI by_), .ref abuf, .int (nI ks), .ref akey, .int (nI ts), .ref atwk, .int (nI rx), .int (nI mn), .ref arow, .ref abox, .ref awrd, .int (nI (ks / 4 + 6)), .ref ablk, .ref amov, .int (nI za), .int (nI zb), .ref ahA, .ref ahB, .ref ahC, .ref anum, .ref amsg, .ref astr])), (akey, .inl (cI, 32, .inl (gA kb))), (abox, .inl (cI, 256, .inl (gA bx))), (awrd, .inl (cI, 240, .inl (gA f)))] → va_S A s.heap H locs → ∀ (ls : Array Slot), lv_has ls 10 [(3, .int (nI i)), (2, .int (nI (ks / 4))), (0, .ref mo), (1, .int (nI t))] → W p l e R s m args below meth c H locs 0 0 Q (F0 m 17 ls [])) ?_ (fun L17 => ?_)
  ·
    intro n9_17
    induction n9_17 using Nat.strongRecOn with
    | ind n9_17 ih9_17 =>
      intro i f hmu9_17 hi hf H locs hP hD hS ls hl
      refine lv_iload_n hx hb dX8_makeWords_17 rfl (lv_at hl 0 rfl) ?_
      refine lv_aload_n hx hb dX8_makeWords_18 rfl (lv_at hl 2 rfl) ?_
      refine gv_get (own := RX8) (D := (dC, dI)) (ci := 7) (C := RX8) (T := TX8) (N := 23) (v := .int (nI ks)) hx hb hts (by decide +kernel) hown hK hP 0 rfl rfl 3 (by decide) (hts (.fieldLink RX8 13 "NumeralCipherModel" "keySize" "I") (by decide +kernel)) rfl rfl dX8_makeWords_19 ?_
      refine gv_icmp_ge (tgt := 58) hx hb dX8_makeWords_22 (by decide) (by omega) (by omega) (fun c_22 => ?_) (fun c_22 => ?_)
      ·
        have e9 : i = ks := by omega
        rw [e9] at hf
        refine lv_iconst (v := nI 1) hx hb dX8_makeWords_58 (by decide) ?_
        refine gv_top (y := nI (rcon ((ks / 4 + 0 - 1) / (ks / 4)))) (congrArg nI (by rw [Nat.div_eq_of_lt (by omega)]; rfl)) ?_
        refine lv_istore_n (lv' := [(3, .int (nI (rcon ((ks / 4 + 0 - 1) / (ks / 4))))), (2, .int (nI (ks / 4))), (0, .ref mo), (1, .int (nI t))]) hx hb dX8_makeWords_59 rfl hl (by decide) rfl (fun ls hl => ?_)
        refine lv_iload_n hx hb dX8_makeWords_60 rfl (lv_at hl 1 rfl) ?_
        refine lv_istore (lv' := [(4, .int (nI (ks / 4))), (3, .int (nI (rcon ((ks / 4 + 0 - 1) / (ks / 4))))), (2, .int (nI (ks / 4))), (0, .ref mo), (1, .int (nI t))]) hx hb dX8_makeWords_61 hl (by decide) rfl (fun ls hl => ?_)
        refine gw_lab (G := fun R args Q => ∀ (n9_63 : Nat) (j : Nat) (f : Nat → Nat), n9_63 = 3 * (ks / 4) + 28 - j → (j ≤ 3 * (ks / 4) + 28) → (∀ q, q < 4 * (ks / 4 + j) → f q = ksS (keyK t kb (ks / 4)) (ks / 4) j q) → ∀ (H : Heap) (locs : List Loc), va_P (dC, dI) vwCl [(mo, .inr (7, [.int (nI th), .int (nI by_), .ref abuf, .int (nI ks), .ref akey, .int (nI ts), .ref atwk, .int (nI rx), .int (nI mn), .ref arow, .ref abox, .ref awrd, .int (nI (ks / 4 + 6)), .ref ablk, .ref amov, .int (nI za), .int (nI zb), .ref ahA, .ref ahB, .ref ahC, .ref anum, .ref amsg, .ref astr])), (akey, .inl (cI, 32, .inl (gA kb))), (abox, .inl (cI, 256, .inl (gA bx))), (awrd, .inl (cI, 240, .inl (gA f)))] H → va_D A [(mo, .inr (7, [.int (nI th), .int (nI by_), .ref abuf, .int (nI ks), .ref akey, .int (nI ts), .ref atwk, .int (nI rx), .int (nI mn), .ref arow, .ref abox, .ref awrd, .int (nI (ks / 4 + 6)), .ref ablk, .ref amov, .int (nI za), .int (nI zb), .ref ahA, .ref ahB, .ref ahC, .ref anum, .ref amsg, .ref astr])), (akey, .inl (cI, 32, .inl (gA kb))), (abox, .inl (cI, 256, .inl (gA bx))), (awrd, .inl (cI, 240, .inl (gA f)))] → va_S A s.heap H locs → ∀ (ls : Array Slot), lv_has ls 10 [(4, .int (nI (ks / 4 + j))), (3, .int (nI (rcon ((ks / 4 + j - 1) / (ks / 4))))), (2, .int (nI (ks / 4))), (0, .ref mo), (1, .int (nI t))] → W p l e R s m args below meth c H locs 0 0 Q (F0 m 63 ls [])) ?_ (fun L63 => ?_)
        ·
          intro n9_63
          induction n9_63 using Nat.strongRecOn with
          | ind n9_63 ih9_63 =>
            intro j f hmu9_63 hj hf H locs hP hD hS ls hl
            have hX := ksS_lt (w := ks / 4) (by omega) hKK j
            have hrc := rcon_lt ((ks / 4 + j - 1) / (ks / 4))
            refine lv_iload hx hb dX8_makeWords_63 (lv_at hl 0 rfl) ?_
            refine lv_iconst (v := nI 4) hx hb dX8_makeWords_65 (by decide) ?_
            refine lv_aload_n hx hb dX8_makeWords_66 rfl (lv_at hl 3 rfl) ?_
            refine gv_get (own := RX8) (D := (dC, dI)) (ci := 7) (C := RX8) (T := TX8) (N := 23) (v := .int (nI (ks / 4 + 6))) hx hb hts (by decide +kernel) hown hK hP 0 rfl rfl 12 (by decide) (hts (.fieldLink RX8 70 "NumeralCipherModel" "rounds" "I") (by decide +kernel)) rfl rfl dX8_makeWords_67 ?_
            refine lv_iconst (v := nI 1) hx hb dX8_makeWords_70 (by decide) ?_
            refine gv_iadd (r := (ks / 4 + 6) + 1) hx hb dX8_makeWords_71 rfl ?_
            refine gv_imul (r := 4 * ((ks / 4 + 6) + 1)) hx hb dX8_makeWords_72 rfl ?_
            refine gv_icmp_ge (tgt := 347) hx hb dX8_makeWords_73 (by decide) (by omega) (by omega) (fun c_73 => ?_) (fun c_73 => ?_)
            ·
              have e9 : j = 3 * (ks / 4) + 28 := by omega
              rw [e9] at hf
              exact W.vret hx hb hr (fun t ht hW => ⟨⟨(f), rfl, (fun q hq => hf q (by omega)), gB_end ht hW hP hK hD⟩, hS.F ht⟩) hS.2.2 dX8_makeWords_347
            ·
              have hp0 := hX (4 * (ks / 4 + j - 1)) (by omega)
              have hp1 := hX (4 * (ks / 4 + j - 1) + 1) (by omega)
              have hp2 := hX (4 * (ks / 4 + j - 1) + 2) (by omega)
              have hp3 := hX (4 * (ks / 4 + j - 1) + 3) (by omega)
              refine lv_aload_n hx hb dX8_makeWords_76 rfl (lv_at hl 3 rfl) ?_
              refine gv_get (own := RX8) (D := (dC, dI)) (ci := 7) (C := RX8) (T := TX8) (N := 23) (v := .ref awrd) hx hb hts (by decide +kernel) hown hK hP 0 rfl rfl 11 (by decide) (hts (.fieldLink RX8 32 "NumeralCipherModel" "words" "[I") (by decide +kernel)) rfl rfl dX8_makeWords_77 ?_
              refine lv_iconst (v := nI 4) hx hb dX8_makeWords_80 (by decide) ?_
              refine lv_iload hx hb dX8_makeWords_81 (lv_at hl 0 rfl) ?_
              refine gv_imul (r := 4 * (ks / 4 + j)) hx hb dX8_makeWords_83 rfl ?_
              refine lv_iconst (v := nI 4) hx hb dX8_makeWords_84 (by decide) ?_
              refine gv_isub (r := (4 * (ks / 4 + j)) - 4) hx hb dX8_makeWords_85 (by omega) ?_
              refine gv_iald hx hb hK hP 3 0 rfl rfl (by omega) (by omega) dX8_makeWords_86 ?_
              refine gv_top (y := nI (ksS (keyK t kb (ks / 4)) (ks / 4) j (4 * (ks / 4 + j - 1)))) (congrArg nI ((hf _ (by omega)).trans (congrArg (ksS (keyK t kb (ks / 4)) (ks / 4) j) (by omega)))) ?_
              refine lv_istore (lv' := [(5, .int (nI (ksS (keyK t kb (ks / 4)) (ks / 4) j (4 * (ks / 4 + j - 1))))), (4, .int (nI (ks / 4 + j))), (3, .int (nI (rcon ((ks / 4 + j - 1) / (ks / 4))))), (2, .int (nI (ks / 4))), (0, .ref mo), (1, .int (nI t))]) hx hb dX8_makeWords_87 hl (by decide) rfl (fun ls hl => ?_)
              refine lv_aload_n hx hb dX8_makeWords_89 rfl (lv_at hl 4 rfl) ?_
              refine gv_get (own := RX8) (D := (dC, dI)) (ci := 7) (C := RX8) (T := TX8) (N := 23) (v := .ref awrd) hx hb hts (by decide +kernel) hown hK hP 0 rfl rfl 11 (by decide) (hts (.fieldLink RX8 32 "NumeralCipherModel" "words" "[I") (by decide +kernel)) rfl rfl dX8_makeWords_90 ?_
              refine lv_iconst (v := nI 4) hx hb dX8_makeWords_93 (by decide) ?_
              refine lv_iload hx hb dX8_makeWords_94 (lv_at hl 1 rfl) ?_
              refine gv_imul (r := 4 * (ks / 4 + j)) hx hb dX8_makeWords_96 rfl ?_
              refine lv_iconst (v := nI 3) hx hb dX8_makeWords_97 (by decide) ?_
              refine gv_isub (r := (4 * (ks / 4 + j)) - 3) hx hb dX8_makeWords_98 (by omega) ?_
              refine gv_iald hx hb hK hP 3 0 rfl rfl (by omega) (by omega) dX8_makeWords_99 ?_
              refine gv_top (y := nI (ksS (keyK t kb (ks / 4)) (ks / 4) j (4 * (ks / 4 + j - 1) + 1))) (congrArg nI ((hf _ (by omega)).trans (congrArg (ksS (keyK t kb (ks / 4)) (ks / 4) j) (by omega)))) ?_
              refine lv_istore (lv' := [(6, .int (nI (ksS (keyK t kb (ks / 4)) (ks / 4) j (4 * (ks / 4 + j - 1) + 1)))), (5, .int (nI (ksS (keyK t kb (ks / 4)) (ks / 4) j (4 * (ks / 4 + j - 1))))), (4, .int (nI (ks / 4 + j))), (3, .int (nI (rcon ((ks / 4 + j - 1) / (ks / 4))))), (2, .int (nI (ks / 4))), (0, .ref mo), (1, .int (nI t))]) hx hb dX8_makeWords_100 hl (by decide) rfl (fun ls hl => ?_)
              refine lv_aload_n hx hb dX8_makeWords_102 rfl (lv_at hl 5 rfl) ?_
              refine gv_get (own := RX8) (D := (dC, dI)) (ci := 7) (C := RX8) (T := TX8) (N := 23) (v := .ref awrd) hx hb hts (by decide +kernel) hown hK hP 0 rfl rfl 11 (by decide) (hts (.fieldLink RX8 32 "NumeralCipherModel" "words" "[I") (by decide +kernel)) rfl rfl dX8_makeWords_103 ?_
              refine lv_iconst (v := nI 4) hx hb dX8_makeWords_106 (by decide) ?_
              refine lv_iload hx hb dX8_makeWords_107 (lv_at hl 2 rfl) ?_
              refine gv_imul (r := 4 * (ks / 4 + j)) hx hb dX8_makeWords_109 rfl ?_
              refine lv_iconst (v := nI 2) hx hb dX8_makeWords_110 (by decide) ?_
              refine gv_isub (r := (4 * (ks / 4 + j)) - 2) hx hb dX8_makeWords_111 (by omega) ?_
              refine gv_iald hx hb hK hP 3 0 rfl rfl (by omega) (by omega) dX8_makeWords_112 ?_
              refine gv_top (y := nI (ksS (keyK t kb (ks / 4)) (ks / 4) j (4 * (ks / 4 + j - 1) + 2))) (congrArg nI ((hf _ (by omega)).trans (congrArg (ksS (keyK t kb (ks / 4)) (ks / 4) j) (by omega)))) ?_
              refine lv_istore (lv' := [(7, .int (nI (ksS (keyK t kb (ks / 4)) (ks / 4) j (4 * (ks / 4 + j - 1) + 2)))), (6, .int (nI (ksS (keyK t kb (ks / 4)) (ks / 4) j (4 * (ks / 4 + j - 1) + 1)))), (5, .int (nI (ksS (keyK t kb (ks / 4)) (ks / 4) j (4 * (ks / 4 + j - 1))))), (4, .int (nI (ks / 4 + j))), (3, .int (nI (rcon ((ks / 4 + j - 1) / (ks / 4))))), (2, .int (nI (ks / 4))), (0, .ref mo), (1, .int (nI t))]) hx hb dX8_makeWords_113 hl (by decide) rfl (fun ls hl => ?_)
              refine lv_aload_n hx hb dX8_makeWords_115 rfl (lv_at hl 6 rfl) ?_
              refine gv_get (own := RX8) (D := (dC, dI)) (ci := 7) (C := RX8) (T := TX8) (N := 23) (v := .ref awrd) hx hb hts (by decide +kernel) hown hK hP 0 rfl rfl 11 (by decide) (hts (.fieldLink RX8 32 "NumeralCipherModel" "words" "[I") (by decide +kernel)) rfl rfl dX8_makeWords_116 ?_
              refine lv_iconst (v := nI 4) hx hb dX8_makeWords_119 (by decide) ?_
              refine lv_iload hx hb dX8_makeWords_120 (lv_at hl 3 rfl) ?_
              refine gv_imul (r := 4 * (ks / 4 + j)) hx hb dX8_makeWords_122 rfl ?_
              refine lv_iconst (v := nI 1) hx hb dX8_makeWords_123 (by decide) ?_
              refine gv_isub (r := (4 * (ks / 4 + j)) - 1) hx hb dX8_makeWords_124 (by omega) ?_
              refine gv_iald hx hb hK hP 3 0 rfl rfl (by omega) (by omega) dX8_makeWords_125 ?_
              refine gv_top (y := nI (ksS (keyK t kb (ks / 4)) (ks / 4) j (4 * (ks / 4 + j - 1) + 3))) (congrArg nI ((hf _ (by omega)).trans (congrArg (ksS (keyK t kb (ks / 4)) (ks / 4) j) (by omega)))) ?_
              refine lv_istore (lv' := [(8, .int (nI (ksS (keyK t kb (ks / 4)) (ks / 4) j (4 * (ks / 4 + j - 1) + 3)))), (7, .int (nI (ksS (keyK t kb (ks / 4)) (ks / 4) j (4 * (ks / 4 + j - 1) + 2)))), (6, .int (nI (ksS (keyK t kb (ks / 4)) (ks / 4) j (4 * (ks / 4 + j - 1) + 1)))), (5, .int (nI (ksS (keyK t kb (ks / 4)) (ks / 4) j (4 * (ks / 4 + j - 1))))), (4, .int (nI (ks / 4 + j))), (3, .int (nI (rcon ((ks / 4 + j - 1) / (ks / 4))))), (2, .int (nI (ks / 4))), (0, .ref mo), (1, .int (nI t))]) hx hb dX8_makeWords_126 hl (by decide) rfl (fun ls hl => ?_)
              refine gw_lab (G := fun R args Q =>  ∀ (H : Heap) (locs : List Loc), va_P (dC, dI) vwCl [(mo, .inr (7, [.int (nI th), .int (nI by_), .ref abuf, .int (nI ks), .ref akey, .int (nI ts), .ref atwk, .int (nI rx), .int (nI mn), .ref arow, .ref abox, .ref awrd, .int (nI (ks / 4 + 6)), .ref ablk, .ref amov, .int (nI za), .int (nI zb), .ref ahA, .ref ahB, .ref ahC, .ref anum, .ref amsg, .ref astr])), (akey, .inl (cI, 32, .inl (gA kb))), (abox, .inl (cI, 256, .inl (gA bx))), (awrd, .inl (cI, 240, .inl (gA f)))] H → va_D A [(mo, .inr (7, [.int (nI th), .int (nI by_), .ref abuf, .int (nI ks), .ref akey, .int (nI ts), .ref atwk, .int (nI rx), .int (nI mn), .ref arow, .ref abox, .ref awrd, .int (nI (ks / 4 + 6)), .ref ablk, .ref amov, .int (nI za), .int (nI zb), .ref ahA, .ref ahB, .ref ahC, .ref anum, .ref amsg, .ref astr])), (akey, .inl (cI, 32, .inl (gA kb))), (abox, .inl (cI, 256, .inl (gA bx))), (awrd, .inl (cI, 240, .inl (gA f)))] → va_S A s.heap H locs → ∀ (ls : Array Slot), lv_has ls 10 [(8, .int (nI (tF (ksS (keyK t kb (ks / 4)) (ks / 4) j) (ks / 4) (ks / 4 + j) 3))), (7, .int (nI (tF (ksS (keyK t kb (ks / 4)) (ks / 4) j) (ks / 4) (ks / 4 + j) 2))), (6, .int (nI (tF (ksS (keyK t kb (ks / 4)) (ks / 4) j) (ks / 4) (ks / 4 + j) 1))), (5, .int (nI (tF (ksS (keyK t kb (ks / 4)) (ks / 4) j) (ks / 4) (ks / 4 + j) 0))), (4, .int (nI (ks / 4 + j))), (3, .int (nI (rcon ((ks / 4 + (j + 1) - 1) / (ks / 4))))), (2, .int (nI (ks / 4))), (0, .ref mo), (1, .int (nI t))] → W p l e R s m args below meth c H locs 0 0 Q (F0 m 237 ls [])) ?_ (fun L237 => ?_)
              ·
                intro  H locs hP hD hS ls hl
                refine lv_aload_n hx hb dX8_makeWords_237 rfl (lv_at hl 7 rfl) ?_
                refine gv_get (own := RX8) (D := (dC, dI)) (ci := 7) (C := RX8) (T := TX8) (N := 23) (v := .ref awrd) hx hb hts (by decide +kernel) hown hK hP 0 rfl rfl 11 (by decide) (hts (.fieldLink RX8 32 "NumeralCipherModel" "words" "[I") (by decide +kernel)) rfl rfl dX8_makeWords_238 ?_
                refine lv_iconst (v := nI 4) hx hb dX8_makeWords_241 (by decide) ?_
                refine lv_iload hx hb dX8_makeWords_242 (lv_at hl 4 rfl) ?_
                refine gv_imul (r := 4 * (ks / 4 + j)) hx hb dX8_makeWords_244 rfl ?_
                refine lv_aload_n hx hb dX8_makeWords_245 rfl (lv_at hl 7 rfl) ?_
                refine gv_get (own := RX8) (D := (dC, dI)) (ci := 7) (C := RX8) (T := TX8) (N := 23) (v := .ref awrd) hx hb hts (by decide +kernel) hown hK hP 0 rfl rfl 11 (by decide) (hts (.fieldLink RX8 32 "NumeralCipherModel" "words" "[I") (by decide +kernel)) rfl rfl dX8_makeWords_246 ?_
                refine lv_iconst (v := nI 4) hx hb dX8_makeWords_249 (by decide) ?_
                refine lv_iload hx hb dX8_makeWords_250 (lv_at hl 4 rfl) ?_
                refine lv_iload_n hx hb dX8_makeWords_252 rfl (lv_at hl 6 rfl) ?_
                refine gv_isub (r := j) hx hb dX8_makeWords_253 (by omega) ?_
                refine gv_imul (r := 4 * j) hx hb dX8_makeWords_254 rfl ?_
                refine gv_iald hx hb hK hP 3 0 rfl rfl (by omega) (by omega) dX8_makeWords_255 ?_
                refine gv_top (y := nI (ksS (keyK t kb (ks / 4)) (ks / 4) j (4 * j))) (congrArg nI (hf _ (by omega))) ?_
                refine lv_iload hx hb dX8_makeWords_256 (lv_at hl 3 rfl) ?_
                refine gv_ixor (r := (ksS (keyK t kb (ks / 4)) (ks / 4) j (4 * j)) ^^^ (tF (ksS (keyK t kb (ks / 4)) (ks / 4) j) (ks / 4) (ks / 4 + j) 0)) hx hb dX8_makeWords_258 rfl ?_
                refine gv_iast (ws' := [(mo, .inr (7, [.int (nI th), .int (nI by_), .ref abuf, .int (nI ks), .ref akey, .int (nI ts), .ref atwk, .int (nI rx), .int (nI mn), .ref arow, .ref abox, .ref awrd, .int (nI (ks / 4 + 6)), .ref ablk, .ref amov, .int (nI za), .int (nI zb), .ref ahA, .ref ahB, .ref ahC, .ref anum, .ref amsg, .ref astr])), (akey, .inl (cI, 32, .inl (gA kb))), (abox, .inl (cI, 256, .inl (gA bx))), (awrd, .inl (cI, 240, .inl (gA (gU f (4 * (ks / 4 + j)) ((ksS (keyK t kb (ks / 4)) (ks / 4) j (4 * j)) ^^^ (tF (ksS (keyK t kb (ks / 4)) (ks / 4) j) (ks / 4) (ks / 4 + j) 0))))))]) hx hb hK hP hD hS 3 0 rfl rfl rfl (by omega) (by omega) dX8_makeWords_259 (fun H locs hP hD hS => ?_)
                refine lv_aload_n hx hb dX8_makeWords_260 rfl (lv_at hl 7 rfl) ?_
                refine gv_get (own := RX8) (D := (dC, dI)) (ci := 7) (C := RX8) (T := TX8) (N := 23) (v := .ref awrd) hx hb hts (by decide +kernel) hown hK hP 0 rfl rfl 11 (by decide) (hts (.fieldLink RX8 32 "NumeralCipherModel" "words" "[I") (by decide +kernel)) rfl rfl dX8_makeWords_261 ?_
                refine lv_iconst (v := nI 4) hx hb dX8_makeWords_264 (by decide) ?_
                refine lv_iload hx hb dX8_makeWords_265 (lv_at hl 4 rfl) ?_
                refine gv_imul (r := 4 * (ks / 4 + j)) hx hb dX8_makeWords_267 rfl ?_
                refine lv_iconst (v := nI 1) hx hb dX8_makeWords_268 (by decide) ?_
                refine gv_iadd (r := (4 * (ks / 4 + j)) + 1) hx hb dX8_makeWords_269 rfl ?_
                refine lv_aload_n hx hb dX8_makeWords_270 rfl (lv_at hl 7 rfl) ?_
                refine gv_get (own := RX8) (D := (dC, dI)) (ci := 7) (C := RX8) (T := TX8) (N := 23) (v := .ref awrd) hx hb hts (by decide +kernel) hown hK hP 0 rfl rfl 11 (by decide) (hts (.fieldLink RX8 32 "NumeralCipherModel" "words" "[I") (by decide +kernel)) rfl rfl dX8_makeWords_271 ?_
                refine lv_iconst (v := nI 4) hx hb dX8_makeWords_274 (by decide) ?_
                refine lv_iload hx hb dX8_makeWords_275 (lv_at hl 4 rfl) ?_
                refine lv_iload_n hx hb dX8_makeWords_277 rfl (lv_at hl 6 rfl) ?_
                refine gv_isub (r := j) hx hb dX8_makeWords_278 (by omega) ?_
                refine gv_imul (r := 4 * j) hx hb dX8_makeWords_279 rfl ?_
                refine lv_iconst (v := nI 1) hx hb dX8_makeWords_280 (by decide) ?_
                refine gv_iadd (r := (4 * j) + 1) hx hb dX8_makeWords_281 rfl ?_
                refine gv_iald hx hb hK hP 3 0 rfl rfl (by omega) (by omega) dX8_makeWords_282 ?_
                refine gv_top (y := nI (ksS (keyK t kb (ks / 4)) (ks / 4) j (4 * j + 1))) (congrArg nI ((gU_n (by omega)).trans (hf _ (by omega)))) ?_
                refine lv_iload hx hb dX8_makeWords_283 (lv_at hl 2 rfl) ?_
                refine gv_ixor (r := (ksS (keyK t kb (ks / 4)) (ks / 4) j (4 * j + 1)) ^^^ (tF (ksS (keyK t kb (ks / 4)) (ks / 4) j) (ks / 4) (ks / 4 + j) 1)) hx hb dX8_makeWords_285 rfl ?_
                refine gv_iast (ws' := [(mo, .inr (7, [.int (nI th), .int (nI by_), .ref abuf, .int (nI ks), .ref akey, .int (nI ts), .ref atwk, .int (nI rx), .int (nI mn), .ref arow, .ref abox, .ref awrd, .int (nI (ks / 4 + 6)), .ref ablk, .ref amov, .int (nI za), .int (nI zb), .ref ahA, .ref ahB, .ref ahC, .ref anum, .ref amsg, .ref astr])), (akey, .inl (cI, 32, .inl (gA kb))), (abox, .inl (cI, 256, .inl (gA bx))), (awrd, .inl (cI, 240, .inl (gA (gU (gU f (4 * (ks / 4 + j)) ((ksS (keyK t kb (ks / 4)) (ks / 4) j (4 * j)) ^^^ (tF (ksS (keyK t kb (ks / 4)) (ks / 4) j) (ks / 4) (ks / 4 + j) 0))) ((4 * (ks / 4 + j)) + 1) ((ksS (keyK t kb (ks / 4)) (ks / 4) j (4 * j + 1)) ^^^ (tF (ksS (keyK t kb (ks / 4)) (ks / 4) j) (ks / 4) (ks / 4 + j) 1))))))]) hx hb hK hP hD hS 3 0 rfl rfl rfl (by omega) (by omega) dX8_makeWords_286 (fun H locs hP hD hS => ?_)
                refine lv_aload_n hx hb dX8_makeWords_287 rfl (lv_at hl 7 rfl) ?_
                refine gv_get (own := RX8) (D := (dC, dI)) (ci := 7) (C := RX8) (T := TX8) (N := 23) (v := .ref awrd) hx hb hts (by decide +kernel) hown hK hP 0 rfl rfl 11 (by decide) (hts (.fieldLink RX8 32 "NumeralCipherModel" "words" "[I") (by decide +kernel)) rfl rfl dX8_makeWords_288 ?_
                refine lv_iconst (v := nI 4) hx hb dX8_makeWords_291 (by decide) ?_
                refine lv_iload hx hb dX8_makeWords_292 (lv_at hl 4 rfl) ?_
                refine gv_imul (r := 4 * (ks / 4 + j)) hx hb dX8_makeWords_294 rfl ?_
                refine lv_iconst (v := nI 2) hx hb dX8_makeWords_295 (by decide) ?_
                refine gv_iadd (r := (4 * (ks / 4 + j)) + 2) hx hb dX8_makeWords_296 rfl ?_
                refine lv_aload_n hx hb dX8_makeWords_297 rfl (lv_at hl 7 rfl) ?_
                refine gv_get (own := RX8) (D := (dC, dI)) (ci := 7) (C := RX8) (T := TX8) (N := 23) (v := .ref awrd) hx hb hts (by decide +kernel) hown hK hP 0 rfl rfl 11 (by decide) (hts (.fieldLink RX8 32 "NumeralCipherModel" "words" "[I") (by decide +kernel)) rfl rfl dX8_makeWords_298 ?_
                refine lv_iconst (v := nI 4) hx hb dX8_makeWords_301 (by decide) ?_
                refine lv_iload hx hb dX8_makeWords_302 (lv_at hl 4 rfl) ?_
                refine lv_iload_n hx hb dX8_makeWords_304 rfl (lv_at hl 6 rfl) ?_
                refine gv_isub (r := j) hx hb dX8_makeWords_305 (by omega) ?_
                refine gv_imul (r := 4 * j) hx hb dX8_makeWords_306 rfl ?_
                refine lv_iconst (v := nI 2) hx hb dX8_makeWords_307 (by decide) ?_
                refine gv_iadd (r := (4 * j) + 2) hx hb dX8_makeWords_308 rfl ?_
                refine gv_iald hx hb hK hP 3 0 rfl rfl (by omega) (by omega) dX8_makeWords_309 ?_
                refine gv_top (y := nI (ksS (keyK t kb (ks / 4)) (ks / 4) j (4 * j + 2))) (congrArg nI ((gU_n (by omega)).trans ((gU_n (by omega)).trans (hf _ (by omega))))) ?_
                refine lv_iload hx hb dX8_makeWords_310 (lv_at hl 1 rfl) ?_
                refine gv_ixor (r := (ksS (keyK t kb (ks / 4)) (ks / 4) j (4 * j + 2)) ^^^ (tF (ksS (keyK t kb (ks / 4)) (ks / 4) j) (ks / 4) (ks / 4 + j) 2)) hx hb dX8_makeWords_312 rfl ?_
                refine gv_iast (ws' := [(mo, .inr (7, [.int (nI th), .int (nI by_), .ref abuf, .int (nI ks), .ref akey, .int (nI ts), .ref atwk, .int (nI rx), .int (nI mn), .ref arow, .ref abox, .ref awrd, .int (nI (ks / 4 + 6)), .ref ablk, .ref amov, .int (nI za), .int (nI zb), .ref ahA, .ref ahB, .ref ahC, .ref anum, .ref amsg, .ref astr])), (akey, .inl (cI, 32, .inl (gA kb))), (abox, .inl (cI, 256, .inl (gA bx))), (awrd, .inl (cI, 240, .inl (gA (gU (gU (gU f (4 * (ks / 4 + j)) ((ksS (keyK t kb (ks / 4)) (ks / 4) j (4 * j)) ^^^ (tF (ksS (keyK t kb (ks / 4)) (ks / 4) j) (ks / 4) (ks / 4 + j) 0))) ((4 * (ks / 4 + j)) + 1) ((ksS (keyK t kb (ks / 4)) (ks / 4) j (4 * j + 1)) ^^^ (tF (ksS (keyK t kb (ks / 4)) (ks / 4) j) (ks / 4) (ks / 4 + j) 1))) ((4 * (ks / 4 + j)) + 2) ((ksS (keyK t kb (ks / 4)) (ks / 4) j (4 * j + 2)) ^^^ (tF (ksS (keyK t kb (ks / 4)) (ks / 4) j) (ks / 4) (ks / 4 + j) 2))))))]) hx hb hK hP hD hS 3 0 rfl rfl rfl (by omega) (by omega) dX8_makeWords_313 (fun H locs hP hD hS => ?_)
                refine lv_aload_n hx hb dX8_makeWords_314 rfl (lv_at hl 7 rfl) ?_
                refine gv_get (own := RX8) (D := (dC, dI)) (ci := 7) (C := RX8) (T := TX8) (N := 23) (v := .ref awrd) hx hb hts (by decide +kernel) hown hK hP 0 rfl rfl 11 (by decide) (hts (.fieldLink RX8 32 "NumeralCipherModel" "words" "[I") (by decide +kernel)) rfl rfl dX8_makeWords_315 ?_
                refine lv_iconst (v := nI 4) hx hb dX8_makeWords_318 (by decide) ?_
                refine lv_iload hx hb dX8_makeWords_319 (lv_at hl 4 rfl) ?_
                refine gv_imul (r := 4 * (ks / 4 + j)) hx hb dX8_makeWords_321 rfl ?_
                refine lv_iconst (v := nI 3) hx hb dX8_makeWords_322 (by decide) ?_
                refine gv_iadd (r := (4 * (ks / 4 + j)) + 3) hx hb dX8_makeWords_323 rfl ?_
                refine lv_aload_n hx hb dX8_makeWords_324 rfl (lv_at hl 7 rfl) ?_
                refine gv_get (own := RX8) (D := (dC, dI)) (ci := 7) (C := RX8) (T := TX8) (N := 23) (v := .ref awrd) hx hb hts (by decide +kernel) hown hK hP 0 rfl rfl 11 (by decide) (hts (.fieldLink RX8 32 "NumeralCipherModel" "words" "[I") (by decide +kernel)) rfl rfl dX8_makeWords_325 ?_
                refine lv_iconst (v := nI 4) hx hb dX8_makeWords_328 (by decide) ?_
                refine lv_iload hx hb dX8_makeWords_329 (lv_at hl 4 rfl) ?_
                refine lv_iload_n hx hb dX8_makeWords_331 rfl (lv_at hl 6 rfl) ?_
                refine gv_isub (r := j) hx hb dX8_makeWords_332 (by omega) ?_
                refine gv_imul (r := 4 * j) hx hb dX8_makeWords_333 rfl ?_
                refine lv_iconst (v := nI 3) hx hb dX8_makeWords_334 (by decide) ?_
                refine gv_iadd (r := (4 * j) + 3) hx hb dX8_makeWords_335 rfl ?_
                refine gv_iald hx hb hK hP 3 0 rfl rfl (by omega) (by omega) dX8_makeWords_336 ?_
                refine gv_top (y := nI (ksS (keyK t kb (ks / 4)) (ks / 4) j (4 * j + 3))) (congrArg nI ((gU_n (by omega)).trans ((gU_n (by omega)).trans ((gU_n (by omega)).trans (hf _ (by omega)))))) ?_
                refine lv_iload hx hb dX8_makeWords_337 (lv_at hl 0 rfl) ?_
                refine gv_ixor (r := (ksS (keyK t kb (ks / 4)) (ks / 4) j (4 * j + 3)) ^^^ (tF (ksS (keyK t kb (ks / 4)) (ks / 4) j) (ks / 4) (ks / 4 + j) 3)) hx hb dX8_makeWords_339 rfl ?_
                refine gv_iast (ws' := [(mo, .inr (7, [.int (nI th), .int (nI by_), .ref abuf, .int (nI ks), .ref akey, .int (nI ts), .ref atwk, .int (nI rx), .int (nI mn), .ref arow, .ref abox, .ref awrd, .int (nI (ks / 4 + 6)), .ref ablk, .ref amov, .int (nI za), .int (nI zb), .ref ahA, .ref ahB, .ref ahC, .ref anum, .ref amsg, .ref astr])), (akey, .inl (cI, 32, .inl (gA kb))), (abox, .inl (cI, 256, .inl (gA bx))), (awrd, .inl (cI, 240, .inl (gA (gU (gU (gU (gU f (4 * (ks / 4 + j)) ((ksS (keyK t kb (ks / 4)) (ks / 4) j (4 * j)) ^^^ (tF (ksS (keyK t kb (ks / 4)) (ks / 4) j) (ks / 4) (ks / 4 + j) 0))) ((4 * (ks / 4 + j)) + 1) ((ksS (keyK t kb (ks / 4)) (ks / 4) j (4 * j + 1)) ^^^ (tF (ksS (keyK t kb (ks / 4)) (ks / 4) j) (ks / 4) (ks / 4 + j) 1))) ((4 * (ks / 4 + j)) + 2) ((ksS (keyK t kb (ks / 4)) (ks / 4) j (4 * j + 2)) ^^^ (tF (ksS (keyK t kb (ks / 4)) (ks / 4) j) (ks / 4) (ks / 4 + j) 2))) ((4 * (ks / 4 + j)) + 3) ((ksS (keyK t kb (ks / 4)) (ks / 4) j (4 * j + 3)) ^^^ (tF (ksS (keyK t kb (ks / 4)) (ks / 4) j) (ks / 4) (ks / 4 + j) 3))))))]) hx hb hK hP hD hS 3 0 rfl rfl rfl (by omega) (by omega) dX8_makeWords_340 (fun H locs hP hD hS => ?_)
                refine lv_iinc (v := nI (ks / 4 + j + 1)) (lv' := [(4, .int (nI (ks / 4 + j + 1))), (8, .int (nI (tF (ksS (keyK t kb (ks / 4)) (ks / 4) j) (ks / 4) (ks / 4 + j) 3))), (7, .int (nI (tF (ksS (keyK t kb (ks / 4)) (ks / 4) j) (ks / 4) (ks / 4 + j) 2))), (6, .int (nI (tF (ksS (keyK t kb (ks / 4)) (ks / 4) j) (ks / 4) (ks / 4 + j) 1))), (5, .int (nI (tF (ksS (keyK t kb (ks / 4)) (ks / 4) j) (ks / 4) (ks / 4 + j) 0))), (3, .int (nI (rcon ((ks / 4 + (j + 1) - 1) / (ks / 4))))), (2, .int (nI (ks / 4))), (0, .ref mo), (1, .int (nI t))]) hx hb dX8_makeWords_341 hl (k := 4) rfl (gz_inc1 _) (by decide) rfl (fun ls hl => ?_)
                refine lv_goto (tgt := 63) hx hb dX8_makeWords_344 (by decide) ?_
                exact ih9_63 _ (by omega) (j + 1) (gU (gU (gU (gU f (4 * (ks / 4 + j)) ((ksS (keyK t kb (ks / 4)) (ks / 4) j (4 * j)) ^^^ (tF (ksS (keyK t kb (ks / 4)) (ks / 4) j) (ks / 4) (ks / 4 + j) 0))) ((4 * (ks / 4 + j)) + 1) ((ksS (keyK t kb (ks / 4)) (ks / 4) j (4 * j + 1)) ^^^ (tF (ksS (keyK t kb (ks / 4)) (ks / 4) j) (ks / 4) (ks / 4 + j) 1))) ((4 * (ks / 4 + j)) + 2) ((ksS (keyK t kb (ks / 4)) (ks / 4) j (4 * j + 2)) ^^^ (tF (ksS (keyK t kb (ks / 4)) (ks / 4) j) (ks / 4) (ks / 4 + j) 2))) ((4 * (ks / 4 + j)) + 3) ((ksS (keyK t kb (ks / 4)) (ks / 4) j (4 * j + 3)) ^^^ (tF (ksS (keyK t kb (ks / 4)) (ks / 4) j) (ks / 4) (ks / 4 + j) 3))) rfl (by omega) (ks_step4 hf rfl rfl rfl rfl) _ _ hP hD hS _ (lv_sub hl [0, 5, 6, 7, 8] rfl)
              refine lv_iload hx hb dX8_makeWords_128 (lv_at hl 4 rfl) ?_
              refine lv_iload_n hx hb dX8_makeWords_130 rfl (lv_at hl 6 rfl) ?_
              refine gv_irem (r := (ks / 4 + j) % (ks / 4)) hx hb dX8_makeWords_131 (by omega) (by omega) (by omega) rfl ?_
              refine gv_if_ne (tgt := 186) hx hb dX8_makeWords_132 (by decide) (Nat.lt_trans (Nat.mod_lt _ (by omega)) (by omega)) (fun c_132 => ?_) (fun c_132 => ?_)
              ·
                have e4 := rcon_same (k := ks / 4 + j) (w := ks / 4) (by omega) (by omega) c_132
                rw [e4] at hl
                refine lv_iload_n hx hb dX8_makeWords_186 rfl (lv_at hl 6 rfl) ?_
                refine lv_bipush (v := nI 8) hx hb dX8_makeWords_187 (by decide) ?_
                refine gv_icmp_ne (tgt := 237) hx hb dX8_makeWords_189 (by decide) (by omega) (by omega) (fun c_189 => ?_) (fun c_189 => ?_)
                ·
                  have e5 := tFcj (P := ksS (keyK t kb (ks / 4)) (ks / 4) j) (w := ks / 4) (k := ks / 4 + j) 0 c_132 (by omega)
                  have e6 := tFcj (P := ksS (keyK t kb (ks / 4)) (ks / 4) j) (w := ks / 4) (k := ks / 4 + j) 1 c_132 (by omega)
                  have e7 := tFcj (P := ksS (keyK t kb (ks / 4)) (ks / 4) j) (w := ks / 4) (k := ks / 4 + j) 2 c_132 (by omega)
                  have e8 := tFcj (P := ksS (keyK t kb (ks / 4)) (ks / 4) j) (w := ks / 4) (k := ks / 4 + j) 3 c_132 (by omega)
                  rw [Nat.add_zero] at e5
                  rw [e5, e6, e7, e8] at hl
                  exact L237   _ _ hP hD hS _ hl
                ·
                  refine lv_iload hx hb dX8_makeWords_192 (lv_at hl 4 rfl) ?_
                  refine lv_bipush (v := nI 8) hx hb dX8_makeWords_194 (by decide) ?_
                  refine gv_irem (r := (ks / 4 + j) % 8) hx hb dX8_makeWords_196 (by omega) (by omega) (by omega) rfl ?_
                  refine lv_iconst (v := nI 4) hx hb dX8_makeWords_197 (by decide) ?_
                  refine gv_icmp_ne (tgt := 237) hx hb dX8_makeWords_198 (by decide) (Nat.lt_trans (Nat.mod_lt _ (by decide)) (by decide)) (by decide) (fun c_198 => ?_) (fun c_198 => ?_)
                  ·
                    have e5 := tFcj (P := ksS (keyK t kb (ks / 4)) (ks / 4) j) (w := ks / 4) (k := ks / 4 + j) 0 c_132 (by omega)
                    have e6 := tFcj (P := ksS (keyK t kb (ks / 4)) (ks / 4) j) (w := ks / 4) (k := ks / 4 + j) 1 c_132 (by omega)
                    have e7 := tFcj (P := ksS (keyK t kb (ks / 4)) (ks / 4) j) (w := ks / 4) (k := ks / 4 + j) 2 c_132 (by omega)
                    have e8 := tFcj (P := ksS (keyK t kb (ks / 4)) (ks / 4) j) (w := ks / 4) (k := ks / 4 + j) 3 c_132 (by omega)
                    rw [Nat.add_zero] at e5
                    rw [e5, e6, e7, e8] at hl
                    exact L237   _ _ hP hD hS _ hl
                  ·
                    refine lv_aload_n hx hb dX8_makeWords_201 rfl (lv_at hl 7 rfl) ?_
                    refine gv_get (own := RX8) (D := (dC, dI)) (ci := 7) (C := RX8) (T := TX8) (N := 23) (v := .ref abox) hx hb hts (by decide +kernel) hown hK hP 0 rfl rfl 10 (by decide) (hts (.fieldLink RX8 29 "NumeralCipherModel" "boxOf" "[I") (by decide +kernel)) rfl rfl dX8_makeWords_202 ?_
                    refine lv_iload hx hb dX8_makeWords_205 (lv_at hl 3 rfl) ?_
                    refine gv_iald hx hb hK hP 2 0 rfl rfl (by omega) (by omega) dX8_makeWords_207 ?_
                    refine gv_top (y := nI (tF (ksS (keyK t kb (ks / 4)) (ks / 4) j) (ks / 4) (ks / 4 + j) 0)) (congrArg nI ((hbx _ hp0).trans (tFbj 0 c_132 c_189 c_198))) ?_
                    refine lv_istore (lv' := [(5, .int (nI (tF (ksS (keyK t kb (ks / 4)) (ks / 4) j) (ks / 4) (ks / 4 + j) 0))), (8, .int (nI (ksS (keyK t kb (ks / 4)) (ks / 4) j (4 * (ks / 4 + j - 1) + 3)))), (7, .int (nI (ksS (keyK t kb (ks / 4)) (ks / 4) j (4 * (ks / 4 + j - 1) + 2)))), (6, .int (nI (ksS (keyK t kb (ks / 4)) (ks / 4) j (4 * (ks / 4 + j - 1) + 1)))), (4, .int (nI (ks / 4 + j))), (3, .int (nI (rcon ((ks / 4 + (j + 1) - 1) / (ks / 4))))), (2, .int (nI (ks / 4))), (0, .ref mo), (1, .int (nI t))]) hx hb dX8_makeWords_208 hl (by decide) rfl (fun ls hl => ?_)
                    refine lv_aload_n hx hb dX8_makeWords_210 rfl (lv_at hl 7 rfl) ?_
                    refine gv_get (own := RX8) (D := (dC, dI)) (ci := 7) (C := RX8) (T := TX8) (N := 23) (v := .ref abox) hx hb hts (by decide +kernel) hown hK hP 0 rfl rfl 10 (by decide) (hts (.fieldLink RX8 29 "NumeralCipherModel" "boxOf" "[I") (by decide +kernel)) rfl rfl dX8_makeWords_211 ?_
                    refine lv_iload hx hb dX8_makeWords_214 (lv_at hl 3 rfl) ?_
                    refine gv_iald hx hb hK hP 2 0 rfl rfl (by omega) (by omega) dX8_makeWords_216 ?_
                    refine gv_top (y := nI (tF (ksS (keyK t kb (ks / 4)) (ks / 4) j) (ks / 4) (ks / 4 + j) 1)) (congrArg nI ((hbx _ hp1).trans (tFbj 1 c_132 c_189 c_198))) ?_
                    refine lv_istore (lv' := [(6, .int (nI (tF (ksS (keyK t kb (ks / 4)) (ks / 4) j) (ks / 4) (ks / 4 + j) 1))), (5, .int (nI (tF (ksS (keyK t kb (ks / 4)) (ks / 4) j) (ks / 4) (ks / 4 + j) 0))), (8, .int (nI (ksS (keyK t kb (ks / 4)) (ks / 4) j (4 * (ks / 4 + j - 1) + 3)))), (7, .int (nI (ksS (keyK t kb (ks / 4)) (ks / 4) j (4 * (ks / 4 + j - 1) + 2)))), (4, .int (nI (ks / 4 + j))), (3, .int (nI (rcon ((ks / 4 + (j + 1) - 1) / (ks / 4))))), (2, .int (nI (ks / 4))), (0, .ref mo), (1, .int (nI t))]) hx hb dX8_makeWords_217 hl (by decide) rfl (fun ls hl => ?_)
                    refine lv_aload_n hx hb dX8_makeWords_219 rfl (lv_at hl 7 rfl) ?_
                    refine gv_get (own := RX8) (D := (dC, dI)) (ci := 7) (C := RX8) (T := TX8) (N := 23) (v := .ref abox) hx hb hts (by decide +kernel) hown hK hP 0 rfl rfl 10 (by decide) (hts (.fieldLink RX8 29 "NumeralCipherModel" "boxOf" "[I") (by decide +kernel)) rfl rfl dX8_makeWords_220 ?_
                    refine lv_iload hx hb dX8_makeWords_223 (lv_at hl 3 rfl) ?_
                    refine gv_iald hx hb hK hP 2 0 rfl rfl (by omega) (by omega) dX8_makeWords_225 ?_
                    refine gv_top (y := nI (tF (ksS (keyK t kb (ks / 4)) (ks / 4) j) (ks / 4) (ks / 4 + j) 2)) (congrArg nI ((hbx _ hp2).trans (tFbj 2 c_132 c_189 c_198))) ?_
                    refine lv_istore (lv' := [(7, .int (nI (tF (ksS (keyK t kb (ks / 4)) (ks / 4) j) (ks / 4) (ks / 4 + j) 2))), (6, .int (nI (tF (ksS (keyK t kb (ks / 4)) (ks / 4) j) (ks / 4) (ks / 4 + j) 1))), (5, .int (nI (tF (ksS (keyK t kb (ks / 4)) (ks / 4) j) (ks / 4) (ks / 4 + j) 0))), (8, .int (nI (ksS (keyK t kb (ks / 4)) (ks / 4) j (4 * (ks / 4 + j - 1) + 3)))), (4, .int (nI (ks / 4 + j))), (3, .int (nI (rcon ((ks / 4 + (j + 1) - 1) / (ks / 4))))), (2, .int (nI (ks / 4))), (0, .ref mo), (1, .int (nI t))]) hx hb dX8_makeWords_226 hl (by decide) rfl (fun ls hl => ?_)
                    refine lv_aload_n hx hb dX8_makeWords_228 rfl (lv_at hl 7 rfl) ?_
                    refine gv_get (own := RX8) (D := (dC, dI)) (ci := 7) (C := RX8) (T := TX8) (N := 23) (v := .ref abox) hx hb hts (by decide +kernel) hown hK hP 0 rfl rfl 10 (by decide) (hts (.fieldLink RX8 29 "NumeralCipherModel" "boxOf" "[I") (by decide +kernel)) rfl rfl dX8_makeWords_229 ?_
                    refine lv_iload hx hb dX8_makeWords_232 (lv_at hl 3 rfl) ?_
                    refine gv_iald hx hb hK hP 2 0 rfl rfl (by omega) (by omega) dX8_makeWords_234 ?_
                    refine gv_top (y := nI (tF (ksS (keyK t kb (ks / 4)) (ks / 4) j) (ks / 4) (ks / 4 + j) 3)) (congrArg nI ((hbx _ hp3).trans (tFbj 3 c_132 c_189 c_198))) ?_
                    refine lv_istore (lv' := [(8, .int (nI (tF (ksS (keyK t kb (ks / 4)) (ks / 4) j) (ks / 4) (ks / 4 + j) 3))), (7, .int (nI (tF (ksS (keyK t kb (ks / 4)) (ks / 4) j) (ks / 4) (ks / 4 + j) 2))), (6, .int (nI (tF (ksS (keyK t kb (ks / 4)) (ks / 4) j) (ks / 4) (ks / 4 + j) 1))), (5, .int (nI (tF (ksS (keyK t kb (ks / 4)) (ks / 4) j) (ks / 4) (ks / 4 + j) 0))), (4, .int (nI (ks / 4 + j))), (3, .int (nI (rcon ((ks / 4 + (j + 1) - 1) / (ks / 4))))), (2, .int (nI (ks / 4))), (0, .ref mo), (1, .int (nI t))]) hx hb dX8_makeWords_235 hl (by decide) rfl (fun ls hl => ?_)
                    exact L237   _ _ hP hD hS _ hl
              ·
                refine lv_iload hx hb dX8_makeWords_135 (lv_at hl 3 rfl) ?_
                refine lv_istore (lv' := [(9, .int (nI (ksS (keyK t kb (ks / 4)) (ks / 4) j (4 * (ks / 4 + j - 1))))), (8, .int (nI (ksS (keyK t kb (ks / 4)) (ks / 4) j (4 * (ks / 4 + j - 1) + 3)))), (7, .int (nI (ksS (keyK t kb (ks / 4)) (ks / 4) j (4 * (ks / 4 + j - 1) + 2)))), (6, .int (nI (ksS (keyK t kb (ks / 4)) (ks / 4) j (4 * (ks / 4 + j - 1) + 1)))), (5, .int (nI (ksS (keyK t kb (ks / 4)) (ks / 4) j (4 * (ks / 4 + j - 1))))), (4, .int (nI (ks / 4 + j))), (3, .int (nI (rcon ((ks / 4 + j - 1) / (ks / 4))))), (2, .int (nI (ks / 4))), (0, .ref mo), (1, .int (nI t))]) hx hb dX8_makeWords_137 hl (by decide) rfl (fun ls hl => ?_)
                refine lv_aload_n hx hb dX8_makeWords_139 rfl (lv_at hl 8 rfl) ?_
                refine gv_get (own := RX8) (D := (dC, dI)) (ci := 7) (C := RX8) (T := TX8) (N := 23) (v := .ref abox) hx hb hts (by decide +kernel) hown hK hP 0 rfl rfl 10 (by decide) (hts (.fieldLink RX8 29 "NumeralCipherModel" "boxOf" "[I") (by decide +kernel)) rfl rfl dX8_makeWords_140 ?_
                refine lv_iload hx hb dX8_makeWords_143 (lv_at hl 3 rfl) ?_
                refine gv_iald hx hb hK hP 2 0 rfl rfl (by omega) (by omega) dX8_makeWords_145 ?_
                refine gv_top (y := nI (sB (ksS (keyK t kb (ks / 4)) (ks / 4) j (4 * (ks / 4 + j - 1) + 1)))) (congrArg nI (hbx _ hp1)) ?_
                refine lv_iload_n hx hb dX8_makeWords_146 rfl (lv_at hl 6 rfl) ?_
                refine gv_ixor (r := (sB (ksS (keyK t kb (ks / 4)) (ks / 4) j (4 * (ks / 4 + j - 1) + 1))) ^^^ (rcon ((ks / 4 + j - 1) / (ks / 4)))) hx hb dX8_makeWords_147 rfl ?_
                refine gv_top (y := nI (tF (ksS (keyK t kb (ks / 4)) (ks / 4) j) (ks / 4) (ks / 4 + j) 0)) (congrArg nI (tFa0 c_132)) ?_
                refine lv_istore (lv' := [(5, .int (nI (tF (ksS (keyK t kb (ks / 4)) (ks / 4) j) (ks / 4) (ks / 4 + j) 0))), (9, .int (nI (ksS (keyK t kb (ks / 4)) (ks / 4) j (4 * (ks / 4 + j - 1))))), (8, .int (nI (ksS (keyK t kb (ks / 4)) (ks / 4) j (4 * (ks / 4 + j - 1) + 3)))), (7, .int (nI (ksS (keyK t kb (ks / 4)) (ks / 4) j (4 * (ks / 4 + j - 1) + 2)))), (6, .int (nI (ksS (keyK t kb (ks / 4)) (ks / 4) j (4 * (ks / 4 + j - 1) + 1)))), (4, .int (nI (ks / 4 + j))), (3, .int (nI (rcon ((ks / 4 + j - 1) / (ks / 4))))), (2, .int (nI (ks / 4))), (0, .ref mo), (1, .int (nI t))]) hx hb dX8_makeWords_148 hl (by decide) rfl (fun ls hl => ?_)
                refine lv_aload_n hx hb dX8_makeWords_150 rfl (lv_at hl 8 rfl) ?_
                refine gv_get (own := RX8) (D := (dC, dI)) (ci := 7) (C := RX8) (T := TX8) (N := 23) (v := .ref abox) hx hb hts (by decide +kernel) hown hK hP 0 rfl rfl 10 (by decide) (hts (.fieldLink RX8 29 "NumeralCipherModel" "boxOf" "[I") (by decide +kernel)) rfl rfl dX8_makeWords_151 ?_
                refine lv_iload hx hb dX8_makeWords_154 (lv_at hl 3 rfl) ?_
                refine gv_iald hx hb hK hP 2 0 rfl rfl (by omega) (by omega) dX8_makeWords_156 ?_
                refine gv_top (y := nI (tF (ksS (keyK t kb (ks / 4)) (ks / 4) j) (ks / 4) (ks / 4 + j) 1)) (congrArg nI ((hbx _ hp2).trans (tFa1 c_132))) ?_
                refine lv_istore (lv' := [(6, .int (nI (tF (ksS (keyK t kb (ks / 4)) (ks / 4) j) (ks / 4) (ks / 4 + j) 1))), (5, .int (nI (tF (ksS (keyK t kb (ks / 4)) (ks / 4) j) (ks / 4) (ks / 4 + j) 0))), (9, .int (nI (ksS (keyK t kb (ks / 4)) (ks / 4) j (4 * (ks / 4 + j - 1))))), (8, .int (nI (ksS (keyK t kb (ks / 4)) (ks / 4) j (4 * (ks / 4 + j - 1) + 3)))), (7, .int (nI (ksS (keyK t kb (ks / 4)) (ks / 4) j (4 * (ks / 4 + j - 1) + 2)))), (4, .int (nI (ks / 4 + j))), (3, .int (nI (rcon ((ks / 4 + j - 1) / (ks / 4))))), (2, .int (nI (ks / 4))), (0, .ref mo), (1, .int (nI t))]) hx hb dX8_makeWords_157 hl (by decide) rfl (fun ls hl => ?_)
                refine lv_aload_n hx hb dX8_makeWords_159 rfl (lv_at hl 8 rfl) ?_
                refine gv_get (own := RX8) (D := (dC, dI)) (ci := 7) (C := RX8) (T := TX8) (N := 23) (v := .ref abox) hx hb hts (by decide +kernel) hown hK hP 0 rfl rfl 10 (by decide) (hts (.fieldLink RX8 29 "NumeralCipherModel" "boxOf" "[I") (by decide +kernel)) rfl rfl dX8_makeWords_160 ?_
                refine lv_iload hx hb dX8_makeWords_163 (lv_at hl 3 rfl) ?_
                refine gv_iald hx hb hK hP 2 0 rfl rfl (by omega) (by omega) dX8_makeWords_165 ?_
                refine gv_top (y := nI (tF (ksS (keyK t kb (ks / 4)) (ks / 4) j) (ks / 4) (ks / 4 + j) 2)) (congrArg nI ((hbx _ hp3).trans (tFa2 c_132))) ?_
                refine lv_istore (lv' := [(7, .int (nI (tF (ksS (keyK t kb (ks / 4)) (ks / 4) j) (ks / 4) (ks / 4 + j) 2))), (6, .int (nI (tF (ksS (keyK t kb (ks / 4)) (ks / 4) j) (ks / 4) (ks / 4 + j) 1))), (5, .int (nI (tF (ksS (keyK t kb (ks / 4)) (ks / 4) j) (ks / 4) (ks / 4 + j) 0))), (9, .int (nI (ksS (keyK t kb (ks / 4)) (ks / 4) j (4 * (ks / 4 + j - 1))))), (8, .int (nI (ksS (keyK t kb (ks / 4)) (ks / 4) j (4 * (ks / 4 + j - 1) + 3)))), (4, .int (nI (ks / 4 + j))), (3, .int (nI (rcon ((ks / 4 + j - 1) / (ks / 4))))), (2, .int (nI (ks / 4))), (0, .ref mo), (1, .int (nI t))]) hx hb dX8_makeWords_166 hl (by decide) rfl (fun ls hl => ?_)
                refine lv_aload_n hx hb dX8_makeWords_168 rfl (lv_at hl 8 rfl) ?_
                refine gv_get (own := RX8) (D := (dC, dI)) (ci := 7) (C := RX8) (T := TX8) (N := 23) (v := .ref abox) hx hb hts (by decide +kernel) hown hK hP 0 rfl rfl 10 (by decide) (hts (.fieldLink RX8 29 "NumeralCipherModel" "boxOf" "[I") (by decide +kernel)) rfl rfl dX8_makeWords_169 ?_
                refine lv_iload hx hb dX8_makeWords_172 (lv_at hl 3 rfl) ?_
                refine gv_iald hx hb hK hP 2 0 rfl rfl (by omega) (by omega) dX8_makeWords_174 ?_
                refine gv_top (y := nI (tF (ksS (keyK t kb (ks / 4)) (ks / 4) j) (ks / 4) (ks / 4 + j) 3)) (congrArg nI ((hbx _ hp0).trans (tFa3 c_132))) ?_
                refine lv_istore (lv' := [(8, .int (nI (tF (ksS (keyK t kb (ks / 4)) (ks / 4) j) (ks / 4) (ks / 4 + j) 3))), (7, .int (nI (tF (ksS (keyK t kb (ks / 4)) (ks / 4) j) (ks / 4) (ks / 4 + j) 2))), (6, .int (nI (tF (ksS (keyK t kb (ks / 4)) (ks / 4) j) (ks / 4) (ks / 4 + j) 1))), (5, .int (nI (tF (ksS (keyK t kb (ks / 4)) (ks / 4) j) (ks / 4) (ks / 4 + j) 0))), (9, .int (nI (ksS (keyK t kb (ks / 4)) (ks / 4) j (4 * (ks / 4 + j - 1))))), (4, .int (nI (ks / 4 + j))), (3, .int (nI (rcon ((ks / 4 + j - 1) / (ks / 4))))), (2, .int (nI (ks / 4))), (0, .ref mo), (1, .int (nI t))]) hx hb dX8_makeWords_175 hl (by decide) rfl (fun ls hl => ?_)
                refine lv_iload_n hx hb dX8_makeWords_177 rfl (lv_at hl 6 rfl) ?_
                refine lv_iconst (v := nI 2) hx hb dX8_makeWords_178 (by decide) ?_
                refine gv_callR (W.runS (As := [.int (nI (rcon ((ks / 4 + j - 1) / (ks / 4)))), .int (nI 2)]) (rest := []) ⟨hx, hb, hml, hown, hts⟩ (c_X8_times l (rcon ((ks / 4 + j - 1) / (ks / 4))) 2 (by omega) (by omega)) (va_cwS 2 hts gX8_makeWords_X8_times rfl rfl rfl (by decide +kernel) ⟨Nat.le_of_ble_eq_true rfl, Nat.le_of_ble_eq_true rfl⟩) ⟨fun a U g mk q => q, fun U hU hW => ⟨rfl, trivial⟩⟩ rfl rfl hl.1 rfl (lv_room (Nat.le_of_ble_eq_true rfl)) dX8_makeWords_179 ⟨Nat.zero_le _, Nat.zero_le _⟩) ?_
                refine gv_top (y := nI (rcon ((ks / 4 + (j + 1) - 1) / (ks / 4)))) (congrArg nI (by rw [tm_2 _ hrc, ← dbl_b hrc]; exact rcon_up (k := ks / 4 + j) (w := ks / 4) (by omega) (by omega) c_132)) ?_
                refine lv_istore_n (lv' := [(3, .int (nI (rcon ((ks / 4 + (j + 1) - 1) / (ks / 4))))), (8, .int (nI (tF (ksS (keyK t kb (ks / 4)) (ks / 4) j) (ks / 4) (ks / 4 + j) 3))), (7, .int (nI (tF (ksS (keyK t kb (ks / 4)) (ks / 4) j) (ks / 4) (ks / 4 + j) 2))), (6, .int (nI (tF (ksS (keyK t kb (ks / 4)) (ks / 4) j) (ks / 4) (ks / 4 + j) 1))), (5, .int (nI (tF (ksS (keyK t kb (ks / 4)) (ks / 4) j) (ks / 4) (ks / 4 + j) 0))), (9, .int (nI (ksS (keyK t kb (ks / 4)) (ks / 4) j (4 * (ks / 4 + j - 1))))), (4, .int (nI (ks / 4 + j))), (2, .int (nI (ks / 4))), (0, .ref mo), (1, .int (nI t))]) hx hb dX8_makeWords_182 rfl hl (by decide) rfl (fun ls hl => ?_)
                refine lv_goto (tgt := 237) hx hb dX8_makeWords_183 (by decide) ?_
                exact L237   _ _ hP hD hS _ (lv_sub hl [1, 2, 3, 4, 6, 0, 7, 8, 9] rfl)
        exact L63 _ 0 f rfl (by omega) (fun q hq => fl_lo hf (by omega) (by omega)) _ _ hP hD hS _ hl
      ·
        refine lv_aload_n hx hb dX8_makeWords_25 rfl (lv_at hl 2 rfl) ?_
        refine gv_get (own := RX8) (D := (dC, dI)) (ci := 7) (C := RX8) (T := TX8) (N := 23) (v := .ref awrd) hx hb hts (by decide +kernel) hown hK hP 0 rfl rfl 11 (by decide) (hts (.fieldLink RX8 32 "NumeralCipherModel" "words" "[I") (by decide +kernel)) rfl rfl dX8_makeWords_26 ?_
        refine lv_iload_n hx hb dX8_makeWords_29 rfl (lv_at hl 0 rfl) ?_
        refine lv_aload_n hx hb dX8_makeWords_30 rfl (lv_at hl 2 rfl) ?_
        refine gv_get (own := RX8) (D := (dC, dI)) (ci := 7) (C := RX8) (T := TX8) (N := 23) (v := .ref akey) hx hb hts (by decide +kernel) hown hK hP 0 rfl rfl 4 (by decide) (hts (.fieldLink RX8 17 "NumeralCipherModel" "key" "[I") (by decide +kernel)) rfl rfl dX8_makeWords_31 ?_
        refine gw_lab (G := fun R args Q =>  ∀ (H : Heap) (locs : List Loc), va_P (dC, dI) vwCl [(mo, .inr (7, [.int (nI th), .int (nI by_), .ref abuf, .int (nI ks), .ref akey, .int (nI ts), .ref atwk, .int (nI rx), .int (nI mn), .ref arow, .ref abox, .ref awrd, .int (nI (ks / 4 + 6)), .ref ablk, .ref amov, .int (nI za), .int (nI zb), .ref ahA, .ref ahB, .ref ahC, .ref anum, .ref amsg, .ref astr])), (akey, .inl (cI, 32, .inl (gA kb))), (abox, .inl (cI, 256, .inl (gA bx))), (awrd, .inl (cI, 240, .inl (gA f)))] H → va_D A [(mo, .inr (7, [.int (nI th), .int (nI by_), .ref abuf, .int (nI ks), .ref akey, .int (nI ts), .ref atwk, .int (nI rx), .int (nI mn), .ref arow, .ref abox, .ref awrd, .int (nI (ks / 4 + 6)), .ref ablk, .ref amov, .int (nI za), .int (nI zb), .ref ahA, .ref ahB, .ref ahC, .ref anum, .ref amsg, .ref astr])), (akey, .inl (cI, 32, .inl (gA kb))), (abox, .inl (cI, 256, .inl (gA bx))), (awrd, .inl (cI, 240, .inl (gA f)))] → va_S A s.heap H locs → ∀ (ls : Array Slot), lv_has ls 10 [(3, .int (nI i)), (2, .int (nI (ks / 4))), (0, .ref mo), (1, .int (nI t))] → W p l e R s m args below meth c H locs 0 0 Q (F0 m 50 ls [.int (nI (if t = 0 then i else ks - 1 - i)), .ref akey, .int (nI i), .ref awrd])) ?_ (fun L50 => ?_)
        ·
          intro  H locs hP hD hS ls hl
          refine gv_iald hx hb hK hP 1 0 rfl rfl (by split <;> omega) (by omega) dX8_makeWords_50 ?_
          refine gv_top (y := nI ((keyK t kb (ks / 4)) i)) (congrArg nI (keyK_ix kb (by omega))) ?_
          refine gv_iast (ws' := [(mo, .inr (7, [.int (nI th), .int (nI by_), .ref abuf, .int (nI ks), .ref akey, .int (nI ts), .ref atwk, .int (nI rx), .int (nI mn), .ref arow, .ref abox, .ref awrd, .int (nI (ks / 4 + 6)), .ref ablk, .ref amov, .int (nI za), .int (nI zb), .ref ahA, .ref ahB, .ref ahC, .ref anum, .ref amsg, .ref astr])), (akey, .inl (cI, 32, .inl (gA kb))), (abox, .inl (cI, 256, .inl (gA bx))), (awrd, .inl (cI, 240, .inl (gA (gU f i ((keyK t kb (ks / 4)) i)))))]) hx hb hK hP hD hS 3 0 rfl rfl rfl (by omega) (by omega) dX8_makeWords_51 (fun H locs hP hD hS => ?_)
          refine lv_iinc (v := nI (i + 1)) (lv' := [(3, .int (nI (i + 1))), (2, .int (nI (ks / 4))), (0, .ref mo), (1, .int (nI t))]) hx hb dX8_makeWords_52 hl (k := 0) rfl (gz_inc1 _) (by decide) rfl (fun ls hl => ?_)
          refine lv_goto (tgt := 17) hx hb dX8_makeWords_55 (by decide) ?_
          exact ih9_17 _ (by omega) (i + 1) (gU f i ((keyK t kb (ks / 4)) i)) rfl (by omega) (fl_s hf rfl) _ _ hP hD hS _ hl
        refine lv_iload_n hx hb dX8_makeWords_34 rfl (lv_at hl 3 rfl) ?_
        refine gv_if_eq (tgt := 49) hx hb dX8_makeWords_35 (by decide) (by omega) (fun c_35 => ?_) (fun c_35 => ?_)
        ·
          refine lv_iload_n hx hb dX8_makeWords_49 rfl (lv_at hl 0 rfl) ?_
          refine gv_top (y := nI (if t = 0 then i else ks - 1 - i)) (congrArg nI (if_pos c_35).symm) ?_
          exact L50   _ _ hP hD hS _ hl
        ·
          refine lv_aload_n hx hb dX8_makeWords_38 rfl (lv_at hl 2 rfl) ?_
          refine gv_get (own := RX8) (D := (dC, dI)) (ci := 7) (C := RX8) (T := TX8) (N := 23) (v := .int (nI ks)) hx hb hts (by decide +kernel) hown hK hP 0 rfl rfl 3 (by decide) (hts (.fieldLink RX8 13 "NumeralCipherModel" "keySize" "I") (by decide +kernel)) rfl rfl dX8_makeWords_39 ?_
          refine lv_iconst (v := nI 1) hx hb dX8_makeWords_42 (by decide) ?_
          refine gv_isub (r := ks - 1) hx hb dX8_makeWords_43 (by omega) ?_
          refine lv_iload_n hx hb dX8_makeWords_44 rfl (lv_at hl 0 rfl) ?_
          refine gv_isub (r := (ks - 1) - i) hx hb dX8_makeWords_45 (by omega) ?_
          refine gv_top (y := nI (if t = 0 then i else ks - 1 - i)) (congrArg nI (if_neg c_35).symm) ?_
          refine lv_goto (tgt := 50) hx hb dX8_makeWords_46 (by decide) ?_
          exact L50   _ _ hP hD hS _ hl
  exact L17 _ 0 w0 rfl (by omega) (fl_0 (fun _ _ => rfl)) _ _ hP hD hS _ hl

set_option maxHeartbeats 4000000 in
set_option maxRecDepth 100000 in
/-- addWords(round) -/
theorem c_X8_addWords (l : Launch) (dC : Nat → ClassId) (dI : Nat → Nat → Nat) (cI : ClassId) (sz : Nat) (mo : Nat) (abuf : Nat) (akey : Nat) (atwk : Nat) (arow : Nat) (abox : Nat) (awrd : Nat) (ablk : Nat) (amov : Nat) (ahA : Nat) (ahB : Nat) (ahC : Nat) (anum : Nat) (amsg : Nat) (astr : Nat) (th : Nat) (by_ : Nat) (ks : Nat) (ts : Nat) (rx : Nat) (mn : Nat) (rd : Nat) (za : Nat) (zb : Nat) (w : Nat → Nat) (b : Nat → Nat) (rn : Nat) (hrn : rn ≤ 14) : Met l yX8_addWords wsX8_addWords ({ frames := 0, cells := 0, slots := 0, locals := 0 }) (gPc dC dI cI [.ref mo, .int (nI rn)] [(mo, .inr (7, [.int (nI th), .int (nI by_), .ref abuf, .int (nI ks), .ref akey, .int (nI ts), .ref atwk, .int (nI rx), .int (nI mn), .ref arow, .ref abox, .ref awrd, .int (nI rd), .ref ablk, .ref amov, .int (nI za), .int (nI zb), .ref ahA, .ref ahB, .ref ahC, .ref anum, .ref amsg, .ref astr])), (awrd, .inl (cI, 240, .inl (gA w))), (ablk, .inl (cI, 16, .inl (gA b)))] sz) (va_Qv (fun u : (Nat → Nat) => (∀ q, q < 16 → u q = b q ^^^ w (16 * rn + q))) (fun u t => gB dC dI cI (va_A [(mo, .inr (7, [.int (nI th), .int (nI by_), .ref abuf, .int (nI ks), .ref akey, .int (nI ts), .ref atwk, .int (nI rx), .int (nI mn), .ref arow, .ref abox, .ref awrd, .int (nI rd), .ref ablk, .ref amov, .int (nI za), .int (nI zb), .ref ahA, .ref ahB, .ref ahC, .ref anum, .ref amsg, .ref astr])), (awrd, .inl (cI, 240, .inl (gA w))), (ablk, .inl (cI, 16, .inl (gA b)))] sz) [(mo, .inr (7, [.int (nI th), .int (nI by_), .ref abuf, .int (nI ks), .ref akey, .int (nI ts), .ref atwk, .int (nI rx), .int (nI mn), .ref arow, .ref abox, .ref awrd, .int (nI rd), .ref ablk, .ref amov, .int (nI za), .int (nI zb), .ref ahA, .ref ahB, .ref ahC, .ref anum, .ref amsg, .ref astr])), (awrd, .inl (cI, 240, .inl (gA w))), (ablk, .inl (cI, 16, .inl (gA u)))] t) (va_A [(mo, .inr (7, [.int (nI th), .int (nI by_), .ref abuf, .int (nI ks), .ref akey, .int (nI ts), .ref atwk, .int (nI rx), .int (nI mn), .ref arow, .ref abox, .ref awrd, .int (nI rd), .ref ablk, .ref amov, .int (nI za), .int (nI zb), .ref ahA, .ref ahB, .ref ahC, .ref anum, .ref amsg, .ref astr])), (awrd, .inl (cI, 240, .inl (gA w))), (ablk, .inl (cI, 16, .inl (gA b)))] sz)) 0 0 (va_A [(mo, .inr (7, [.int (nI th), .int (nI by_), .ref abuf, .int (nI ks), .ref akey, .int (nI ts), .ref atwk, .int (nI rx), .int (nI mn), .ref arow, .ref abox, .ref awrd, .int (nI rd), .ref ablk, .ref amov, .int (nI za), .int (nI zb), .ref ahA, .ref ahB, .ref ahC, .ref anum, .ref amsg, .ref astr])), (awrd, .inl (cI, 240, .inl (gA w))), (ablk, .inl (cI, 16, .inl (gA b)))] sz) := by
  refine Met.ofW (cc := cX8_addWords) (maxL := 3) (ret := none) (by decide) rfl ?_
  intro p e s m args below meth c s₁ B9 hml hv
  obtain ⟨rfl, hsz, ⟨hP, hK, hD0⟩⟩ := hv
  have hx := B9.exec
  have hb := B9.bytes
  have hr := B9.returns
  have hts := atoms_spec (ws := wsX8_addWords) B9.pre
  have hown : s.vm.findClass RX8 = some m.cls := findClass_of_methodNamed B9.named
  have hlocks := B9.notSynchronized
  subst hsz
  have hD := hD0.self (sz := s.heap.size)
  generalize hAe : va_A [(mo, .inr (7, [.int (nI th), .int (nI by_), .ref abuf, .int (nI ks), .ref akey, .int (nI ts), .ref atwk, .int (nI rx), .int (nI mn), .ref arow, .ref abox, .ref awrd, .int (nI rd), .ref ablk, .ref amov, .int (nI za), .int (nI zb), .ref ahA, .ref ahB, .ref ahC, .ref anum, .ref amsg, .ref astr])), (awrd, .inl (cI, 240, .inl (gA w))), (ablk, .inl (cI, 16, .inl (gA b)))] s.heap.size = A at hD ⊢
  have hA : ∀ q : Nat, s.heap.size ≤ q → A q := fun q h => by rw [← hAe]; exact Or.inr h
  have hS : va_S A s.heap s.heap [] := va_S.rf
  have hl := lv_entry ([.ref mo, .int (nI rn)]) (n := 3) (Nat.le_of_ble_eq_true rfl)
  rw [lg_entry_eq]
  generalize (lg_sl ([.ref mo, .int (nI rn)]) ++ List.replicate (3 - (lg_sl ([.ref mo, .int (nI rn)])).length) Slot.unset).toArray = ls at hl ⊢
  have hl : lv_has ls 3 [(0, .ref mo), (1, .int (nI rn))] := hl
  refine lv_iconst (v := nI 0) hx hb dX8_addWords_0 (by decide) ?_
  refine lv_istore_n (lv' := [(2, .int (nI 0)), (0, .ref mo), (1, .int (nI rn))]) hx hb dX8_addWords_1 rfl hl (by decide) rfl (fun ls hl => ?_)
  refine gw_lab (G := fun R args Q => ∀ (n9_2 : Nat) (i : Nat) (f : Nat → Nat), n9_2 = 16 - i → (i ≤ 16) → (∀ q, q < 16 → f q = if q < i then b q ^^^ w (16 * rn + q) else b q) → ∀ (H : Heap) (locs : List Loc), va_P (dC, dI) vwCl [(mo, .inr (7, [.int (nI th), .int (nI by_), .ref abuf, .int (nI ks), .ref akey, .int (nI ts), .ref atwk, .int (nI rx), .int (nI mn), .ref arow, .ref abox, .ref awrd, .int (nI rd), .ref ablk, .ref amov, .int (nI za), .int (nI zb), .ref ahA, .ref ahB, .ref ahC, .ref anum, .ref amsg, .ref astr])), (awrd, .inl (cI, 240, .inl (gA w))), (ablk, .inl (cI, 16, .inl (gA f)))] H → va_D A [(mo, .inr (7, [.int (nI th), .int (nI by_), .ref abuf, .int (nI ks), .ref akey, .int (nI ts), .ref atwk, .int (nI rx), .int (nI mn), .ref arow, .ref abox, .ref awrd, .int (nI rd), .ref ablk, .ref amov, .int (nI za), .int (nI zb), .ref ahA, .ref ahB, .ref ahC, .ref anum, .ref amsg, .ref astr])), (awrd, .inl (cI, 240, .inl (gA w))), (ablk, .inl (cI, 16, .inl (gA f)))] → va_S A s.heap H locs → ∀ (ls : Array Slot), lv_has ls 3 [(2, .int (nI i)), (0, .ref mo), (1, .int (nI rn))] → W p l e R s m args below meth c H locs 0 0 Q (F0 m 2 ls [])) ?_ (fun L2 => ?_)
  ·
    intro n9_2
    induction n9_2 using Nat.strongRecOn with
    | ind n9_2 ih9_2 =>
      intro i f hmu9_2 hi hf H locs hP hD hS ls hl
      refine lv_iload_n hx hb dX8_addWords_2 rfl (lv_at hl 0 rfl) ?_
      refine lv_bipush (v := nI 16) hx hb dX8_addWords_3 (by decide) ?_
      refine gv_icmp_ge (tgt := 38) hx hb dX8_addWords_5 (by decide) (by omega) (by omega) (fun c_5 => ?_) (fun c_5 => ?_)
      ·
        have e9 : i = 16 := by omega
        rw [e9] at hf
        have hf := fl_e hf
        exact W.vret hx hb hr (fun t ht hW => ⟨⟨(f), rfl, hf, gB_end ht hW hP hK hD⟩, hS.F ht⟩) hS.2.2 dX8_addWords_38
      ·
        refine lv_aload_n hx hb dX8_addWords_8 rfl (lv_at hl 1 rfl) ?_
        refine gv_get (own := RX8) (D := (dC, dI)) (ci := 7) (C := RX8) (T := TX8) (N := 23) (v := .ref ablk) hx hb hts (by decide +kernel) hown hK hP 0 rfl rfl 13 (by decide) (hts (.fieldLink RX8 35 "NumeralCipherModel" "block" "[I") (by decide +kernel)) rfl rfl dX8_addWords_9 ?_
        refine lv_iload_n hx hb dX8_addWords_12 rfl (lv_at hl 0 rfl) ?_
        refine lv_aload_n hx hb dX8_addWords_13 rfl (lv_at hl 1 rfl) ?_
        refine gv_get (own := RX8) (D := (dC, dI)) (ci := 7) (C := RX8) (T := TX8) (N := 23) (v := .ref ablk) hx hb hts (by decide +kernel) hown hK hP 0 rfl rfl 13 (by decide) (hts (.fieldLink RX8 35 "NumeralCipherModel" "block" "[I") (by decide +kernel)) rfl rfl dX8_addWords_14 ?_
        refine lv_iload_n hx hb dX8_addWords_17 rfl (lv_at hl 0 rfl) ?_
        refine gv_iald hx hb hK hP 2 0 rfl rfl (by omega) (by omega) dX8_addWords_18 ?_
        refine gv_top (y := nI (b i)) (congrArg nI (fl_hi hf c_5 (Nat.le_refl _))) ?_
        refine lv_aload_n hx hb dX8_addWords_19 rfl (lv_at hl 1 rfl) ?_
        refine gv_get (own := RX8) (D := (dC, dI)) (ci := 7) (C := RX8) (T := TX8) (N := 23) (v := .ref awrd) hx hb hts (by decide +kernel) hown hK hP 0 rfl rfl 11 (by decide) (hts (.fieldLink RX8 32 "NumeralCipherModel" "words" "[I") (by decide +kernel)) rfl rfl dX8_addWords_20 ?_
        refine lv_bipush (v := nI 16) hx hb dX8_addWords_23 (by decide) ?_
        refine lv_iload_n hx hb dX8_addWords_25 rfl (lv_at hl 2 rfl) ?_
        refine gv_imul (r := 16 * rn) hx hb dX8_addWords_26 rfl ?_
        refine lv_iload_n hx hb dX8_addWords_27 rfl (lv_at hl 0 rfl) ?_
        refine gv_iadd (r := (16 * rn) + i) hx hb dX8_addWords_28 rfl ?_
        refine gv_iald hx hb hK hP 1 0 rfl rfl (by omega) (by omega) dX8_addWords_29 ?_
        refine gv_ixor (r := (b i) ^^^ (w ((16 * rn) + i))) hx hb dX8_addWords_30 rfl ?_
        refine gv_iast (ws' := [(mo, .inr (7, [.int (nI th), .int (nI by_), .ref abuf, .int (nI ks), .ref akey, .int (nI ts), .ref atwk, .int (nI rx), .int (nI mn), .ref arow, .ref abox, .ref awrd, .int (nI rd), .ref ablk, .ref amov, .int (nI za), .int (nI zb), .ref ahA, .ref ahB, .ref ahC, .ref anum, .ref amsg, .ref astr])), (awrd, .inl (cI, 240, .inl (gA w))), (ablk, .inl (cI, 16, .inl (gA (gU f i ((b i) ^^^ (w ((16 * rn) + i)))))))]) hx hb hK hP hD hS 2 0 rfl rfl rfl (by omega) (by omega) dX8_addWords_31 (fun H locs hP hD hS => ?_)
        refine lv_iinc (v := nI (i + 1)) (lv' := [(2, .int (nI (i + 1))), (0, .ref mo), (1, .int (nI rn))]) hx hb dX8_addWords_32 hl (k := 0) rfl (gz_inc1 _) (by decide) rfl (fun ls hl => ?_)
        refine lv_goto (tgt := 2) hx hb dX8_addWords_35 (by decide) ?_
        exact ih9_2 _ (by omega) (i + 1) (gU f i ((b i) ^^^ (w ((16 * rn) + i)))) rfl (by omega) (fl_s hf rfl) _ _ hP hD hS _ hl
  exact L2 _ 0 b rfl (by omega) (fl_0 (fun _ _ => rfl)) _ _ hP hD hS _ hl

set_option maxHeartbeats 4000000 in
set_option maxRecDepth 100000 in
/-- encipher() of the reference -/
theorem c_X8_encipher (l : Launch) (dC : Nat → ClassId) (dI : Nat → Nat → Nat) (cI : ClassId) (sz : Nat) (mo : Nat) (abuf : Nat) (akey : Nat) (atwk : Nat) (arow : Nat) (abox : Nat) (awrd : Nat) (ablk : Nat) (amov : Nat) (ahA : Nat) (ahB : Nat) (ahC : Nat) (anum : Nat) (amsg : Nat) (astr : Nat) (th : Nat) (by_ : Nat) (ks : Nat) (ts : Nat) (rx : Nat) (mn : Nat) (rd : Nat) (za : Nat) (zb : Nat) (bx : Nat → Nat) (w : Nat → Nat) (v : Nat → Nat) (b : Nat → Nat) (Wk : Nat → Nat) (Bk : Nat → Nat) (hr1 : 1 ≤ rd) (hr2 : rd ≤ 14) (hbx : ∀ q, q < 256 → bx q = sB q) (hww : ∀ q, q < 16 * (rd + 1) → w q = Wk q) (hW : ∀ j, j < 16 * (rd + 1) → Wk j < 256) (hbb : ∀ q, q < 16 → b q = Bk q) (hB : ∀ j, j < 16 → Bk j < 256) : Met l yX8_encipher wsX8_encipher ({ frames := 1, cells := 0, slots := 0, locals := 23 }) (gPc dC dI cI [.ref mo] [(mo, .inr (7, [.int (nI th), .int (nI by_), .ref abuf, .int (nI ks), .ref akey, .int (nI ts), .ref atwk, .int (nI rx), .int (nI mn), .ref arow, .ref abox, .ref awrd, .int (nI rd), .ref ablk, .ref amov, .int (nI za), .int (nI zb), .ref ahA, .ref ahB, .ref ahC, .ref anum, .ref amsg, .ref astr])), (abox, .inl (cI, 256, .inl (gA bx))), (awrd, .inl (cI, 240, .inl (gA w))), (ablk, .inl (cI, 16, .inl (gA b))), (amov, .inl (cI, 16, .inl (gA v)))] sz) (va_Qv (fun u : (Nat → Nat) × (Nat → Nat) => (∀ q, q < 16 → u.2 q = enc Wk rd Bk q)) (fun u t => gB dC dI cI (va_A [(mo, .inr (7, [.int (nI th), .int (nI by_), .ref abuf, .int (nI ks), .ref akey, .int (nI ts), .ref atwk, .int (nI rx), .int (nI mn), .ref arow, .ref abox, .ref awrd, .int (nI rd), .ref ablk, .ref amov, .int (nI za), .int (nI zb), .ref ahA, .ref ahB, .ref ahC, .ref anum, .ref amsg, .ref astr])), (abox, .inl (cI, 256, .inl (gA bx))), (awrd, .inl (cI, 240, .inl (gA w))), (ablk, .inl (cI, 16, .inl (gA b))), (amov, .inl (cI, 16, .inl (gA v)))] sz) [(mo, .inr (7, [.int (nI th), .int (nI by_), .ref abuf, .int (nI ks), .ref akey, .int (nI ts), .ref atwk, .int (nI rx), .int (nI mn), .ref arow, .ref abox, .ref awrd, .int (nI rd), .ref ablk, .ref amov, .int (nI za), .int (nI zb), .ref ahA, .ref ahB, .ref ahC, .ref anum, .ref amsg, .ref astr])), (abox, .inl (cI, 256, .inl (gA bx))), (awrd, .inl (cI, 240, .inl (gA w))), (ablk, .inl (cI, 16, .inl (gA u.2))), (amov, .inl (cI, 16, .inl (gA u.1)))] t) (va_A [(mo, .inr (7, [.int (nI th), .int (nI by_), .ref abuf, .int (nI ks), .ref akey, .int (nI ts), .ref atwk, .int (nI rx), .int (nI mn), .ref arow, .ref abox, .ref awrd, .int (nI rd), .ref ablk, .ref amov, .int (nI za), .int (nI zb), .ref ahA, .ref ahB, .ref ahC, .ref anum, .ref amsg, .ref astr])), (abox, .inl (cI, 256, .inl (gA bx))), (awrd, .inl (cI, 240, .inl (gA w))), (ablk, .inl (cI, 16, .inl (gA b))), (amov, .inl (cI, 16, .inl (gA v)))] sz)) 0 0 (va_A [(mo, .inr (7, [.int (nI th), .int (nI by_), .ref abuf, .int (nI ks), .ref akey, .int (nI ts), .ref atwk, .int (nI rx), .int (nI mn), .ref arow, .ref abox, .ref awrd, .int (nI rd), .ref ablk, .ref amov, .int (nI za), .int (nI zb), .ref ahA, .ref ahB, .ref ahC, .ref anum, .ref amsg, .ref astr])), (abox, .inl (cI, 256, .inl (gA bx))), (awrd, .inl (cI, 240, .inl (gA w))), (ablk, .inl (cI, 16, .inl (gA b))), (amov, .inl (cI, 16, .inl (gA v)))] sz) := by
  refine Met.ofW (cc := cX8_encipher) (maxL := 7) (ret := none) (by decide) rfl ?_
  intro p e s m args below meth c s₁ B9 hml hv
  obtain ⟨rfl, hsz, ⟨hP, hK, hD0⟩⟩ := hv
  have hx := B9.exec
  have hb := B9.bytes
  have hr := B9.returns
  have hts := atoms_spec (ws := wsX8_encipher) B9.pre
  have hown : s.vm.findClass RX8 = some m.cls := findClass_of_methodNamed B9.named
  have hlocks := B9.notSynchronized
  subst hsz
  have hD := hD0.self (sz := s.heap.size)
  generalize hAe : va_A [(mo, .inr (7, [.int (nI th), .int (nI by_), .ref abuf, .int (nI ks), .ref akey, .int (nI ts), .ref atwk, .int (nI rx), .int (nI mn), .ref arow, .ref abox, .ref awrd, .int (nI rd), .ref ablk, .ref amov, .int (nI za), .int (nI zb), .ref ahA, .ref ahB, .ref ahC, .ref anum, .ref amsg, .ref astr])), (abox, .inl (cI, 256, .inl (gA bx))), (awrd, .inl (cI, 240, .inl (gA w))), (ablk, .inl (cI, 16, .inl (gA b))), (amov, .inl (cI, 16, .inl (gA v)))] s.heap.size = A at hD ⊢
  have hA : ∀ q : Nat, s.heap.size ≤ q → A q := fun q h => by rw [← hAe]; exact Or.inr h
  have hS : va_S A s.heap s.heap [] := va_S.rf
  have hl := lv_entry ([.ref mo]) (n := 7) (Nat.le_of_ble_eq_true rfl)
  rw [lg_entry_eq]
  generalize (lg_sl ([.ref mo]) ++ List.replicate (7 - (lg_sl ([.ref mo])).length) Slot.unset).toArray = ls at hl ⊢
  have hl : lv_has ls 7 [(0, .ref mo)] := hl
  refine lv_aload_n hx hb dX8_encipher_0 rfl (lv_at hl 0 rfl) ?_
  refine lv_iconst (v := nI 0) hx hb dX8_encipher_1 (by decide) ?_
  have hPc := hP.sub (ws' := [(mo, .inr (7, [.int (nI th), .int (nI by_), .ref abuf, .int (nI ks), .ref akey, .int (nI ts), .ref atwk, .int (nI rx), .int (nI mn), .ref arow, .ref abox, .ref awrd, .int (nI rd), .ref ablk, .ref amov, .int (nI za), .int (nI zb), .ref ahA, .ref ahB, .ref ahC, .ref anum, .ref amsg, .ref astr])), (awrd, .inl (cI, 240, .inl (gA w))), (ablk, .inl (cI, 16, .inl (gA b)))]) [0, 2, 3] rfl
  have hDc := hD.sub (ws' := [(mo, .inr (7, [.int (nI th), .int (nI by_), .ref abuf, .int (nI ks), .ref akey, .int (nI ts), .ref atwk, .int (nI rx), .int (nI mn), .ref arow, .ref abox, .ref awrd, .int (nI rd), .ref ablk, .ref amov, .int (nI za), .int (nI zb), .ref ahA, .ref ahB, .ref ahC, .ref anum, .ref amsg, .ref astr])), (awrd, .inl (cI, 240, .inl (gA w))), (ablk, .inl (cI, 16, .inl (gA b)))]) [0, 2, 3] (by decide) rfl
  have hFc := va_free (wc := [(mo, .inr (7, [.int (nI th), .int (nI by_), .ref abuf, .int (nI ks), .ref akey, .int (nI ts), .ref atwk, .int (nI rx), .int (nI mn), .ref arow, .ref abox, .ref awrd, .int (nI rd), .ref ablk, .ref amov, .int (nI za), .int (nI zb), .ref ahA, .ref ahB, .ref ahC, .ref anum, .ref amsg, .ref astr])), (awrd, .inl (cI, 240, .inl (gA w))), (ablk, .inl (cI, 16, .inl (gA b)))]) hD hS hA [0, 2, 3] rfl
  refine va_callv (va_runV (As := [.int (nI 0)]) (rest := []) ⟨hx, hb, hml, hown, hts⟩ (c_X8_addWords l dC dI cI s.heap.size mo abuf akey atwk arow abox awrd ablk amov ahA ahB ahC anum amsg astr th by_ ks ts rx mn rd za zb w b 0 (by omega)) (cwV 1 hts gX8_encipher_X8_addWords rfl rfl rfl (by decide +kernel) ⟨Nat.le_of_ble_eq_true rfl, Nat.le_of_ble_eq_true rfl⟩) ⟨gPc_blind, va_recv hK hPc (ci := 7) (q0 := 0) rfl rfl, gPc_pre hPc hK hDc⟩ rfl rfl hl.1 rfl (lv_room (Nat.le_of_ble_eq_true rfl)) dX8_encipher_2 ⟨Nat.zero_le _, Nat.zero_le _⟩) hS (fun q _ h => hFc q h) hFc (fun u8 t8 H1 locs ht hvm hw hB hz1 hk1 hS => ?_)
  obtain ⟨b9_1, rfl⟩ : ∃ z, z = u8 := ⟨_, rfl⟩
  try dsimp only at hw hB
  obtain ⟨hP, hD⟩ := gB_join (wr := [(abox, .inl (cI, 256, .inl (gA bx))), (amov, .inl (cI, 16, .inl (gA v)))]) (w2 := [(abox, .inl (cI, 256, .inl (gA bx))), (amov, .inl (cI, 16, .inl (gA v))), (mo, .inr (7, [.int (nI th), .int (nI by_), .ref abuf, .int (nI ks), .ref akey, .int (nI ts), .ref atwk, .int (nI rx), .int (nI mn), .ref arow, .ref abox, .ref awrd, .int (nI rd), .ref ablk, .ref amov, .int (nI za), .int (nI zb), .ref ahA, .ref ahB, .ref ahC, .ref anum, .ref amsg, .ref astr])), (awrd, .inl (cI, 240, .inl (gA w))), (ablk, .inl (cI, 16, .inl (gA b9_1)))]) hP hD [0, 2, 3] [1, 4] rfl rfl (by decide) (by decide) hk1 hFc ht hB rfl
  clear hk1 hz1 ht hB hvm hPc hDc hFc
  generalize H1 = H at hP hS ⊢
  have ha0 := hw
  have hfi : ∀ q, q < 16 → _ = encI Wk rd Bk 0 q := fun q hq => (ha0 q hq).trans (by rw [hbb q hq, Nat.mul_zero, Nat.zero_add, hww q (by omega)]; rfl)
  refine lv_iconst (v := nI 1) hx hb dX8_encipher_5 (by decide) ?_
  refine lv_istore_n (lv' := [(1, .int (nI 1)), (0, .ref mo)]) hx hb dX8_encipher_6 rfl hl (by decide) rfl (fun ls hl => ?_)
  refine gw_lab (G := fun R args Q => ∀ (n9_7 : Nat) (i : Nat) (b1 : Nat → Nat) (v1 : Nat → Nat), n9_7 = rd - i → (i ≤ rd) → (∀ q, q < 16 → b1 q = encI Wk rd Bk i q) → ∀ (H : Heap) (locs : List Loc), va_P (dC, dI) vwCl [(mo, .inr (7, [.int (nI th), .int (nI by_), .ref abuf, .int (nI ks), .ref akey, .int (nI ts), .ref atwk, .int (nI rx), .int (nI mn), .ref arow, .ref abox, .ref awrd, .int (nI rd), .ref ablk, .ref amov, .int (nI za), .int (nI zb), .ref ahA, .ref ahB, .ref ahC, .ref anum, .ref amsg, .ref astr])), (abox, .inl (cI, 256, .inl (gA bx))), (awrd, .inl (cI, 240, .inl (gA w))), (ablk, .inl (cI, 16, .inl (gA b1))), (amov, .inl (cI, 16, .inl (gA v1)))] H → va_D A [(mo, .inr (7, [.int (nI th), .int (nI by_), .ref abuf, .int (nI ks), .ref akey, .int (nI ts), .ref atwk, .int (nI rx), .int (nI mn), .ref arow, .ref abox, .ref awrd, .int (nI rd), .ref ablk, .ref amov, .int (nI za), .int (nI zb), .ref ahA, .ref ahB, .ref ahC, .ref anum, .ref amsg, .ref astr])), (abox, .inl (cI, 256, .inl (gA bx))), (awrd, .inl (cI, 240, .inl (gA w))), (ablk, .inl (cI, 16, .inl (gA b1))), (amov, .inl (cI, 16, .inl (gA v1)))] → va_S A s.heap H locs → ∀ (ls : Array Slot), lv_has ls 7 [(1, .int (nI (i + 1))), (0, .ref mo)] → W p l e R s m args below meth c H locs 0 0 Q (F0 m 7 ls [])) ?_ (fun L7 => ?_)
  ·
    intro n9_7
    induction n9_7 using Nat.strongRecOn with
    | ind n9_7 ih9_7 =>
      intro i b1 v1 hmu9_7 hi hf H locs hP hD hS ls hl
      have hX := encI_lt hW hB i hi
      have hM := subR_lt hX
      refine lv_iload_n hx hb dX8_encipher_7 rfl (lv_at hl 0 rfl) ?_
      refine lv_aload_n hx hb dX8_encipher_8 rfl (lv_at hl 1 rfl) ?_
      refine gv_get (own := RX8) (D := (dC, dI)) (ci := 7) (C := RX8) (T := TX8) (N := 23) (v := .int (nI rd)) hx hb hts (by decide +kernel) hown hK hP 0 rfl rfl 12 (by decide) (hts (.fieldLink RX8 70 "NumeralCipherModel" "rounds" "I") (by decide +kernel)) rfl rfl dX8_encipher_9 ?_
      refine gv_icmp_gt (tgt := 196) hx hb dX8_encipher_12 (by decide) (by omega) (by omega) (fun c_12 => ?_) (fun c_12 => ?_)
      ·
        have e9 : i = rd := by omega
        rw [e9] at hf
        exact W.vret hx hb hr (fun t ht hW => ⟨⟨(v1, b1), rfl, hf, gB_end ht hW hP hK hD⟩, hS.F ht⟩) hS.2.2 dX8_encipher_196
      ·
        refine lv_iconst (v := nI 0) hx hb dX8_encipher_15 (by decide) ?_
        refine lv_istore_n (lv' := [(2, .int (nI 0)), (1, .int (nI (i + 1))), (0, .ref mo)]) hx hb dX8_encipher_16 rfl hl (by decide) rfl (fun ls hl => ?_)
        refine gw_lab (G := fun R args Q => ∀ (n9_17 : Nat) (c_ : Nat) (v2 : Nat → Nat), n9_17 = 4 - c_ → (c_ ≤ 4) → (∀ q, q < 16 → v2 q = if q < 4 * c_ then subR (encI Wk rd Bk i) q else v1 q) → ∀ (H : Heap) (locs : List Loc), va_P (dC, dI) vwCl [(mo, .inr (7, [.int (nI th), .int (nI by_), .ref abuf, .int (nI ks), .ref akey, .int (nI ts), .ref atwk, .int (nI rx), .int (nI mn), .ref arow, .ref abox, .ref awrd, .int (nI rd), .ref ablk, .ref amov, .int (nI za), .int (nI zb), .ref ahA, .ref ahB, .ref ahC, .ref anum, .ref amsg, .ref astr])), (abox, .inl (cI, 256, .inl (gA bx))), (awrd, .inl (cI, 240, .inl (gA w))), (ablk, .inl (cI, 16, .inl (gA b1))), (amov, .inl (cI, 16, .inl (gA v2)))] H → va_D A [(mo, .inr (7, [.int (nI th), .int (nI by_), .ref abuf, .int (nI ks), .ref akey, .int (nI ts), .ref atwk, .int (nI rx), .int (nI mn), .ref arow, .ref abox, .ref awrd, .int (nI rd), .ref ablk, .ref amov, .int (nI za), .int (nI zb), .ref ahA, .ref ahB, .ref ahC, .ref anum, .ref amsg, .ref astr])), (abox, .inl (cI, 256, .inl (gA bx))), (awrd, .inl (cI, 240, .inl (gA w))), (ablk, .inl (cI, 16, .inl (gA b1))), (amov, .inl (cI, 16, .inl (gA v2)))] → va_S A s.heap H locs → ∀ (ls : Array Slot), lv_has ls 7 [(2, .int (nI c_)), (1, .int (nI (i + 1))), (0, .ref mo)] → W p l e R s m args below meth c H locs 0 0 Q (F0 m 17 ls [])) ?_ (fun L17 => ?_)
        ·
          intro n9_17
          induction n9_17 using Nat.strongRecOn with
          | ind n9_17 ih9_17 =>
            intro c_ v2 hmu9_17 hc hv H locs hP hD hS ls hl
            refine lv_iload_n hx hb dX8_encipher_17 rfl (lv_at hl 0 rfl) ?_
            refine lv_iconst (v := nI 4) hx hb dX8_encipher_18 (by decide) ?_
            refine gv_icmp_ge (tgt := 70) hx hb dX8_encipher_19 (by decide) (by omega) (by omega) (fun c_19 => ?_) (fun c_19 => ?_)
            ·
              have e9 : c_ = 4 := by omega
              rw [e9] at hv
              have hv : ∀ q, q < 16 → v2 q = subR (encI Wk rd Bk i) q := fl_e hv
              refine lv_iconst (v := nI 0) hx hb dX8_encipher_70 (by decide) ?_
              refine lv_istore_n (lv' := [(2, .int (nI 0)), (1, .int (nI (i + 1))), (0, .ref mo)]) hx hb dX8_encipher_71 rfl hl (by decide) rfl (fun ls hl => ?_)
              refine gw_lab (G := fun R args Q => ∀ (n9_72 : Nat) (c_ : Nat) (b2 : Nat → Nat), n9_72 = 4 - c_ → (c_ ≤ 4) → (∀ q, q < 16 → b2 q = if q < 4 * c_ then (if i + 1 < rd then mixR (subR (encI Wk rd Bk i)) q else subR (encI Wk rd Bk i) q) else b1 q) → ∀ (H : Heap) (locs : List Loc), va_P (dC, dI) vwCl [(mo, .inr (7, [.int (nI th), .int (nI by_), .ref abuf, .int (nI ks), .ref akey, .int (nI ts), .ref atwk, .int (nI rx), .int (nI mn), .ref arow, .ref abox, .ref awrd, .int (nI rd), .ref ablk, .ref amov, .int (nI za), .int (nI zb), .ref ahA, .ref ahB, .ref ahC, .ref anum, .ref amsg, .ref astr])), (abox, .inl (cI, 256, .inl (gA bx))), (awrd, .inl (cI, 240, .inl (gA w))), (ablk, .inl (cI, 16, .inl (gA b2))), (amov, .inl (cI, 16, .inl (gA v2)))] H → va_D A [(mo, .inr (7, [.int (nI th), .int (nI by_), .ref abuf, .int (nI ks), .ref akey, .int (nI ts), .ref atwk, .int (nI rx), .int (nI mn), .ref arow, .ref abox, .ref awrd, .int (nI rd), .ref ablk, .ref amov, .int (nI za), .int (nI zb), .ref ahA, .ref ahB, .ref ahC, .ref anum, .ref amsg, .ref astr])), (abox, .inl (cI, 256, .inl (gA bx))), (awrd, .inl (cI, 240, .inl (gA w))), (ablk, .inl (cI, 16, .inl (gA b2))), (amov, .inl (cI, 16, .inl (gA v2)))] → va_S A s.heap H locs → ∀ (ls : Array Slot), lv_has ls 7 [(2, .int (nI (4 * c_))), (1, .int (nI (i + 1))), (0, .ref mo)] → W p l e R s m args below meth c H locs 0 0 Q (F0 m 72 ls [])) ?_ (fun L72 => ?_)
              ·
                intro n9_72
                induction n9_72 using Nat.strongRecOn with
                | ind n9_72 ih9_72 =>
                  intro c_ b2 hmu9_72 hc hb2 H locs hP hD hS ls hl
                  refine lv_iload_n hx hb dX8_encipher_72 rfl (lv_at hl 0 rfl) ?_
                  refine lv_bipush (v := nI 16) hx hb dX8_encipher_73 (by decide) ?_
                  refine gv_icmp_ge (tgt := 185) hx hb dX8_encipher_75 (by decide) (by omega) (by omega) (fun c_75 => ?_) (fun c_75 => ?_)
                  ·
                    have e9 : c_ = 4 := by omega
                    rw [e9] at hb2
                    have hb2 : ∀ q, q < 16 → b2 q = (if i + 1 < rd then mixR (subR (encI Wk rd Bk i)) q else subR (encI Wk rd Bk i) q) := fl_e hb2
                    refine lv_aload_n hx hb dX8_encipher_185 rfl (lv_at hl 2 rfl) ?_
                    refine lv_iload_n hx hb dX8_encipher_186 rfl (lv_at hl 1 rfl) ?_
                    have hPc := hP.sub (ws' := [(mo, .inr (7, [.int (nI th), .int (nI by_), .ref abuf, .int (nI ks), .ref akey, .int (nI ts), .ref atwk, .int (nI rx), .int (nI mn), .ref arow, .ref abox, .ref awrd, .int (nI rd), .ref ablk, .ref amov, .int (nI za), .int (nI zb), .ref ahA, .ref ahB, .ref ahC, .ref anum, .ref amsg, .ref astr])), (awrd, .inl (cI, 240, .inl (gA w))), (ablk, .inl (cI, 16, .inl (gA b2)))]) [0, 2, 3] rfl
                    have hDc := hD.sub (ws' := [(mo, .inr (7, [.int (nI th), .int (nI by_), .ref abuf, .int (nI ks), .ref akey, .int (nI ts), .ref atwk, .int (nI rx), .int (nI mn), .ref arow, .ref abox, .ref awrd, .int (nI rd), .ref ablk, .ref amov, .int (nI za), .int (nI zb), .ref ahA, .ref ahB, .ref ahC, .ref anum, .ref amsg, .ref astr])), (awrd, .inl (cI, 240, .inl (gA w))), (ablk, .inl (cI, 16, .inl (gA b2)))]) [0, 2, 3] (by decide) rfl
                    have hFc := va_free (wc := [(mo, .inr (7, [.int (nI th), .int (nI by_), .ref abuf, .int (nI ks), .ref akey, .int (nI ts), .ref atwk, .int (nI rx), .int (nI mn), .ref arow, .ref abox, .ref awrd, .int (nI rd), .ref ablk, .ref amov, .int (nI za), .int (nI zb), .ref ahA, .ref ahB, .ref ahC, .ref anum, .ref amsg, .ref astr])), (awrd, .inl (cI, 240, .inl (gA w))), (ablk, .inl (cI, 16, .inl (gA b2)))]) hD hS hA [0, 2, 3] rfl
                    refine va_callv (va_runV (As := [.int (nI (i + 1))]) (rest := []) ⟨hx, hb, hml, hown, hts⟩ (c_X8_addWords l dC dI cI H.size mo abuf akey atwk arow abox awrd ablk amov ahA ahB ahC anum amsg astr th by_ ks ts rx mn rd za zb w b2 (i + 1) (by omega)) (cwV 1 hts gX8_encipher_X8_addWords rfl rfl rfl (by decide +kernel) ⟨Nat.le_of_ble_eq_true rfl, Nat.le_of_ble_eq_true rfl⟩) ⟨gPc_blind, va_recv hK hPc (ci := 7) (q0 := 0) rfl rfl, gPc_pre hPc hK hDc⟩ rfl rfl hl.1 rfl (lv_room (Nat.le_of_ble_eq_true rfl)) dX8_encipher_187 ⟨Nat.zero_le _, Nat.zero_le _⟩) hS (fun q _ h => hFc q h) hFc (fun u8 t8 H1 locs ht hvm hw hB hz1 hk1 hS => ?_)
                    obtain ⟨b9_2, rfl⟩ : ∃ z, z = u8 := ⟨_, rfl⟩
                    try dsimp only at hw hB
                    obtain ⟨hP, hD⟩ := gB_join (wr := [(abox, .inl (cI, 256, .inl (gA bx))), (amov, .inl (cI, 16, .inl (gA v2)))]) (w2 := [(abox, .inl (cI, 256, .inl (gA bx))), (amov, .inl (cI, 16, .inl (gA v2))), (mo, .inr (7, [.int (nI th), .int (nI by_), .ref abuf, .int (nI ks), .ref akey, .int (nI ts), .ref atwk, .int (nI rx), .int (nI mn), .ref arow, .ref abox, .ref awrd, .int (nI rd), .ref ablk, .ref amov, .int (nI za), .int (nI zb), .ref ahA, .ref ahB, .ref ahC, .ref anum, .ref amsg, .ref astr])), (awrd, .inl (cI, 240, .inl (gA w))), (ablk, .inl (cI, 16, .inl (gA b9_2)))]) hP hD [0, 2, 3] [1, 4] rfl rfl (by decide) (by decide) hk1 hFc ht hB rfl
                    clear hk1 hz1 ht hB hvm hPc hDc hFc
                    generalize H1 = H at hP hS ⊢
                    have ha9 := hw
                    have hfn : ∀ q, q < 16 → _ = encI Wk rd Bk (i + 1) q := fun q hq => (ha9 q hq).trans (by rw [hb2 q hq, hww _ (by omega)]; rfl)
                    refine lv_iinc (v := nI (i + 1 + 1)) (lv' := [(1, .int (nI (i + 1 + 1))), (2, .int (nI (4 * c_))), (0, .ref mo)]) hx hb dX8_encipher_190 hl (k := 1) rfl (gz_inc1 _) (by decide) rfl (fun ls hl => ?_)
                    refine lv_goto (tgt := 7) hx hb dX8_encipher_193 (by decide) ?_
                    exact ih9_7 _ (by omega) (i + 1) b9_2 v2 rfl (by omega) hfn _ _ (hP.sub [2, 0, 3, 4, 1] rfl) (hD.sub [2, 0, 3, 4, 1] (by decide) rfl) hS _ (lv_sub hl [0, 2] rfl)
                  ·
                    refine lv_iconst (v := nI 0) hx hb dX8_encipher_78 (by decide) ?_
                    refine lv_istore_n (lv' := [(3, .int (nI 0)), (2, .int (nI (4 * c_))), (1, .int (nI (i + 1))), (0, .ref mo)]) hx hb dX8_encipher_79 rfl hl (by decide) rfl (fun ls hl => ?_)
                    refine gw_lab (G := fun R args Q => ∀ (n9_80 : Nat) (k : Nat) (b3 : Nat → Nat), n9_80 = 4 - k → (k ≤ 4) → (∀ q, q < 16 → b3 q = if q < 4 * c_ + k then (if i + 1 < rd then mixR (subR (encI Wk rd Bk i)) q else subR (encI Wk rd Bk i) q) else b1 q) → ∀ (H : Heap) (locs : List Loc), va_P (dC, dI) vwCl [(mo, .inr (7, [.int (nI th), .int (nI by_), .ref abuf, .int (nI ks), .ref akey, .int (nI ts), .ref atwk, .int (nI rx), .int (nI mn), .ref arow, .ref abox, .ref awrd, .int (nI rd), .ref ablk, .ref amov, .int (nI za), .int (nI zb), .ref ahA, .ref ahB, .ref ahC, .ref anum, .ref amsg, .ref astr])), (abox, .inl (cI, 256, .inl (gA bx))), (awrd, .inl (cI, 240, .inl (gA w))), (ablk, .inl (cI, 16, .inl (gA b3))), (amov, .inl (cI, 16, .inl (gA v2)))] H → va_D A [(mo, .inr (7, [.int (nI th), .int (nI by_), .ref abuf, .int (nI ks), .ref akey, .int (nI ts), .ref atwk, .int (nI rx), .int (nI mn), .ref arow, .ref abox, .ref awrd, .int (nI rd), .ref ablk, .ref amov, .int (nI za), .int (nI zb), .ref ahA, .ref ahB, .ref ahC, .ref anum, .ref amsg, .ref astr])), (abox, .inl (cI, 256, .inl (gA bx))), (awrd, .inl (cI, 240, .inl (gA w))), (ablk, .inl (cI, 16, .inl (gA b3))), (amov, .inl (cI, 16, .inl (gA v2)))] → va_S A s.heap H locs → ∀ (ls : Array Slot), lv_has ls 7 [(3, .int (nI k)), (2, .int (nI (4 * c_))), (1, .int (nI (i + 1))), (0, .ref mo)] → W p l e R s m args below meth c H locs 0 0 Q (F0 m 80 ls [])) ?_ (fun L80 => ?_)
                    ·
                      intro n9_80
                      induction n9_80 using Nat.strongRecOn with
                      | ind n9_80 ih9_80 =>
                        intro k b3 hmu9_80 hk hb3 H locs hP hD hS ls hl
                        refine lv_iload_n hx hb dX8_encipher_80 rfl (lv_at hl 0 rfl) ?_
                        refine lv_iconst (v := nI 4) hx hb dX8_encipher_81 (by decide) ?_
                        refine gv_icmp_ge (tgt := 179) hx hb dX8_encipher_82 (by decide) (by omega) (by omega) (fun c_82 => ?_) (fun c_82 => ?_)
                        ·
                          have e9 : k = 4 := by omega
                          rw [e9] at hb3
                          refine lv_iinc (v := nI (4 * c_ + 4)) (lv' := [(2, .int (nI (4 * c_ + 4))), (3, .int (nI k)), (1, .int (nI (i + 1))), (0, .ref mo)]) hx hb dX8_encipher_179 hl (k := 1) rfl (gz_inc4 _) (by decide) rfl (fun ls hl => ?_)
                          refine lv_goto (tgt := 72) hx hb dX8_encipher_182 (by decide) ?_
                          exact ih9_72 _ (by omega) (c_ + 1) b3 rfl (by omega) hb3 _ _ hP hD hS _ (lv_sub hl [0, 2, 3] rfl)
                        ·
                          have m0 := hM (4 * c_ + k) (by omega)
                          have m1 := hM (4 * c_ + (k + 1) % 4) (by omega)
                          refine lv_aload_n hx hb dX8_encipher_85 rfl (lv_at hl 3 rfl) ?_
                          refine gv_get (own := RX8) (D := (dC, dI)) (ci := 7) (C := RX8) (T := TX8) (N := 23) (v := .ref amov) hx hb hts (by decide +kernel) hown hK hP 0 rfl rfl 14 (by decide) (hts (.fieldLink RX8 38 "NumeralCipherModel" "moved" "[I") (by decide +kernel)) rfl rfl dX8_encipher_86 ?_
                          refine lv_iload_n hx hb dX8_encipher_89 rfl (lv_at hl 1 rfl) ?_
                          refine lv_iload_n hx hb dX8_encipher_90 rfl (lv_at hl 0 rfl) ?_
                          refine gv_iadd (r := (4 * c_) + k) hx hb dX8_encipher_91 rfl ?_
                          refine gv_iald hx hb hK hP 4 0 rfl rfl (by omega) (by omega) dX8_encipher_92 ?_
                          refine gv_top (y := nI (subR (encI Wk rd Bk i) (4 * c_ + k))) (congrArg nI (hv _ (by omega))) ?_
                          refine lv_istore (lv' := [(4, .int (nI (subR (encI Wk rd Bk i) (4 * c_ + k)))), (3, .int (nI k)), (2, .int (nI (4 * c_))), (1, .int (nI (i + 1))), (0, .ref mo)]) hx hb dX8_encipher_93 hl (by decide) rfl (fun ls hl => ?_)
                          refine lv_aload_n hx hb dX8_encipher_95 rfl (lv_at hl 4 rfl) ?_
                          refine gv_get (own := RX8) (D := (dC, dI)) (ci := 7) (C := RX8) (T := TX8) (N := 23) (v := .ref amov) hx hb hts (by decide +kernel) hown hK hP 0 rfl rfl 14 (by decide) (hts (.fieldLink RX8 38 "NumeralCipherModel" "moved" "[I") (by decide +kernel)) rfl rfl dX8_encipher_96 ?_
                          refine lv_iload_n hx hb dX8_encipher_99 rfl (lv_at hl 2 rfl) ?_
                          refine lv_iload_n hx hb dX8_encipher_100 rfl (lv_at hl 1 rfl) ?_
                          refine lv_iconst (v := nI 1) hx hb dX8_encipher_101 (by decide) ?_
                          refine gv_iadd (r := k + 1) hx hb dX8_encipher_102 rfl ?_
                          refine lv_iconst (v := nI 4) hx hb dX8_encipher_103 (by decide) ?_
                          refine gv_irem (r := (k + 1) % 4) hx hb dX8_encipher_104 (by omega) (by omega) (by omega) rfl ?_
                          refine gv_iadd (r := (4 * c_) + ((k + 1) % 4)) hx hb dX8_encipher_105 rfl ?_
                          refine gv_iald hx hb hK hP 4 0 rfl rfl (by omega) (by omega) dX8_encipher_106 ?_
                          refine gv_top (y := nI (subR (encI Wk rd Bk i) (4 * c_ + (k + 1) % 4))) (congrArg nI (hv _ (by omega))) ?_
                          refine lv_istore (lv' := [(5, .int (nI (subR (encI Wk rd Bk i) (4 * c_ + (k + 1) % 4)))), (4, .int (nI (subR (encI Wk rd Bk i) (4 * c_ + k)))), (3, .int (nI k)), (2, .int (nI (4 * c_))), (1, .int (nI (i + 1))), (0, .ref mo)]) hx hb dX8_encipher_107 hl (by decide) rfl (fun ls hl => ?_)
                          refine lv_iload hx hb dX8_encipher_109 (lv_at hl 1 rfl) ?_
                          refine lv_iconst (v := nI 2) hx hb dX8_encipher_111 (by decide) ?_
                          refine gv_callR (W.runS (As := [.int (nI (subR (encI Wk rd Bk i) (4 * c_ + k))), .int (nI 2)]) (rest := []) ⟨hx, hb, hml, hown, hts⟩ (c_X8_times l (subR (encI Wk rd Bk i) (4 * c_ + k)) 2 m0 (by omega)) (va_cwS 2 hts gX8_encipher_X8_times rfl rfl rfl (by decide +kernel) ⟨Nat.le_of_ble_eq_true rfl, Nat.le_of_ble_eq_true rfl⟩) ⟨fun a U g mk q => q, fun U hU hW => ⟨rfl, trivial⟩⟩ rfl rfl hl.1 rfl (lv_room (Nat.le_of_ble_eq_true rfl)) dX8_encipher_112 ⟨Nat.zero_le _, Nat.zero_le _⟩) ?_
                          refine gv_top (y := nI (x2 (subR (encI Wk rd Bk i) (4 * c_ + k)))) (congrArg nI (tm_2 _ m0)) ?_
                          refine lv_iload hx hb dX8_encipher_115 (lv_at hl 0 rfl) ?_
                          refine lv_iconst (v := nI 3) hx hb dX8_encipher_117 (by decide) ?_
                          refine gv_callR (W.runS (As := [.int (nI (subR (encI Wk rd Bk i) (4 * c_ + (k + 1) % 4))), .int (nI 3)]) (rest := [.int (nI (x2 (subR (encI Wk rd Bk i) (4 * c_ + k))))]) ⟨hx, hb, hml, hown, hts⟩ (c_X8_times l (subR (encI Wk rd Bk i) (4 * c_ + (k + 1) % 4)) 3 m1 (by omega)) (va_cwS 2 hts gX8_encipher_X8_times rfl rfl rfl (by decide +kernel) ⟨Nat.le_of_ble_eq_true rfl, Nat.le_of_ble_eq_true rfl⟩) ⟨fun a U g mk q => q, fun U hU hW => ⟨rfl, trivial⟩⟩ rfl rfl hl.1 rfl (lv_room (Nat.le_of_ble_eq_true rfl)) dX8_encipher_118 ⟨Nat.zero_le _, Nat.zero_le _⟩) ?_
                          refine gv_top (y := nI (x2 (subR (encI Wk rd Bk i) (4 * c_ + (k + 1) % 4)) ^^^ subR (encI Wk rd Bk i) (4 * c_ + (k + 1) % 4))) (congrArg nI (tm_3 _ m1)) ?_
                          refine gv_ixor (r := (x2 (subR (encI Wk rd Bk i) (4 * c_ + k))) ^^^ (x2 (subR (encI Wk rd Bk i) (4 * c_ + (k + 1) % 4)) ^^^ subR (encI Wk rd Bk i) (4 * c_ + (k + 1) % 4))) hx hb dX8_encipher_121 rfl ?_
                          refine lv_aload_n hx hb dX8_encipher_122 rfl (lv_at hl 5 rfl) ?_
                          refine gv_get (own := RX8) (D := (dC, dI)) (ci := 7) (C := RX8) (T := TX8) (N := 23) (v := .ref amov) hx hb hts (by decide +kernel) hown hK hP 0 rfl rfl 14 (by decide) (hts (.fieldLink RX8 38 "NumeralCipherModel" "moved" "[I") (by decide +kernel)) rfl rfl dX8_encipher_123 ?_
                          refine lv_iload_n hx hb dX8_encipher_126 rfl (lv_at hl 3 rfl) ?_
                          refine lv_iload_n hx hb dX8_encipher_127 rfl (lv_at hl 2 rfl) ?_
                          refine lv_iconst (v := nI 2) hx hb dX8_encipher_128 (by decide) ?_
                          refine gv_iadd (r := k + 2) hx hb dX8_encipher_129 rfl ?_
                          refine lv_iconst (v := nI 4) hx hb dX8_encipher_130 (by decide) ?_
                          refine gv_irem (r := (k + 2) % 4) hx hb dX8_encipher_131 (by omega) (by omega) (by omega) rfl ?_
                          refine gv_iadd (r := (4 * c_) + ((k + 2) % 4)) hx hb dX8_encipher_132 rfl ?_
                          refine gv_iald hx hb hK hP 4 0 rfl rfl (by omega) (by omega) dX8_encipher_133 ?_
                          refine gv_top (y := nI (subR (encI Wk rd Bk i) (4 * c_ + (k + 2) % 4))) (congrArg nI (hv _ (by omega))) ?_
                          refine gv_ixor (r := ((x2 (subR (encI Wk rd Bk i) (4 * c_ + k))) ^^^ (x2 (subR (encI Wk rd Bk i) (4 * c_ + (k + 1) % 4)) ^^^ subR (encI Wk rd Bk i) (4 * c_ + (k + 1) % 4))) ^^^ (subR (encI Wk rd Bk i) (4 * c_ + (k + 2) % 4))) hx hb dX8_encipher_134 rfl ?_
                          refine lv_aload_n hx hb dX8_encipher_135 rfl (lv_at hl 5 rfl) ?_
                          refine gv_get (own := RX8) (D := (dC, dI)) (ci := 7) (C := RX8) (T := TX8) (N := 23) (v := .ref amov) hx hb hts (by decide +kernel) hown hK hP 0 rfl rfl 14 (by decide) (hts (.fieldLink RX8 38 "NumeralCipherModel" "moved" "[I") (by decide +kernel)) rfl rfl dX8_encipher_136 ?_
                          refine lv_iload_n hx hb dX8_encipher_139 rfl (lv_at hl 3 rfl) ?_
                          refine lv_iload_n hx hb dX8_encipher_140 rfl (lv_at hl 2 rfl) ?_
                          refine lv_iconst (v := nI 3) hx hb dX8_encipher_141 (by decide) ?_
                          refine gv_iadd (r := k + 3) hx hb dX8_encipher_142 rfl ?_
                          refine lv_iconst (v := nI 4) hx hb dX8_encipher_143 (by decide) ?_
                          refine gv_irem (r := (k + 3) % 4) hx hb dX8_encipher_144 (by omega) (by omega) (by omega) rfl ?_
                          refine gv_iadd (r := (4 * c_) + ((k + 3) % 4)) hx hb dX8_encipher_145 rfl ?_
                          refine gv_iald hx hb hK hP 4 0 rfl rfl (by omega) (by omega) dX8_encipher_146 ?_
                          refine gv_top (y := nI (subR (encI Wk rd Bk i) (4 * c_ + (k + 3) % 4))) (congrArg nI (hv _ (by omega))) ?_
                          refine gv_ixor (r := (((x2 (subR (encI Wk rd Bk i) (4 * c_ + k))) ^^^ (x2 (subR (encI Wk rd Bk i) (4 * c_ + (k + 1) % 4)) ^^^ subR (encI Wk rd Bk i) (4 * c_ + (k + 1) % 4))) ^^^ (subR (encI Wk rd Bk i) (4 * c_ + (k + 2) % 4))) ^^^ (subR (encI Wk rd Bk i) (4 * c_ + (k + 3) % 4))) hx hb dX8_encipher_147 rfl ?_
                          refine gv_top (y := nI (mixR (subR (encI Wk rd Bk i)) (4 * c_ + k))) (congrArg nI (mixR_at (by omega)).symm) ?_
                          refine lv_istore (lv' := [(6, .int (nI (mixR (subR (encI Wk rd Bk i)) (4 * c_ + k)))), (5, .int (nI (subR (encI Wk rd Bk i) (4 * c_ + (k + 1) % 4)))), (4, .int (nI (subR (encI Wk rd Bk i) (4 * c_ + k)))), (3, .int (nI k)), (2, .int (nI (4 * c_))), (1, .int (nI (i + 1))), (0, .ref mo)]) hx hb dX8_encipher_148 hl (by decide) rfl (fun ls hl => ?_)
                          refine lv_aload_n hx hb dX8_encipher_150 rfl (lv_at hl 6 rfl) ?_
                          refine gv_get (own := RX8) (D := (dC, dI)) (ci := 7) (C := RX8) (T := TX8) (N := 23) (v := .ref ablk) hx hb hts (by decide +kernel) hown hK hP 0 rfl rfl 13 (by decide) (hts (.fieldLink RX8 35 "NumeralCipherModel" "block" "[I") (by decide +kernel)) rfl rfl dX8_encipher_151 ?_
                          refine lv_iload_n hx hb dX8_encipher_154 rfl (lv_at hl 4 rfl) ?_
                          refine lv_iload_n hx hb dX8_encipher_155 rfl (lv_at hl 3 rfl) ?_
                          refine gv_iadd (r := (4 * c_) + k) hx hb dX8_encipher_156 rfl ?_
                          refine gw_lab (G := fun R args Q =>  ∀ (H : Heap) (locs : List Loc), va_P (dC, dI) vwCl [(mo, .inr (7, [.int (nI th), .int (nI by_), .ref abuf, .int (nI ks), .ref akey, .int (nI ts), .ref atwk, .int (nI rx), .int (nI mn), .ref arow, .ref abox, .ref awrd, .int (nI rd), .ref ablk, .ref amov, .int (nI za), .int (nI zb), .ref ahA, .ref ahB, .ref ahC, .ref anum, .ref amsg, .ref astr])), (abox, .inl (cI, 256, .inl (gA bx))), (awrd, .inl (cI, 240, .inl (gA w))), (ablk, .inl (cI, 16, .inl (gA b3))), (amov, .inl (cI, 16, .inl (gA v2)))] H → va_D A [(mo, .inr (7, [.int (nI th), .int (nI by_), .ref abuf, .int (nI ks), .ref akey, .int (nI ts), .ref atwk, .int (nI rx), .int (nI mn), .ref arow, .ref abox, .ref awrd, .int (nI rd), .ref ablk, .ref amov, .int (nI za), .int (nI zb), .ref ahA, .ref ahB, .ref ahC, .ref anum, .ref amsg, .ref astr])), (abox, .inl (cI, 256, .inl (gA bx))), (awrd, .inl (cI, 240, .inl (gA w))), (ablk, .inl (cI, 16, .inl (gA b3))), (amov, .inl (cI, 16, .inl (gA v2)))] → va_S A s.heap H locs → ∀ (ls : Array Slot), lv_has ls 7 [(6, .int (nI (mixR (subR (encI Wk rd Bk i)) (4 * c_ + k)))), (5, .int (nI (subR (encI Wk rd Bk i) (4 * c_ + (k + 1) % 4)))), (4, .int (nI (subR (encI Wk rd Bk i) (4 * c_ + k)))), (3, .int (nI k)), (2, .int (nI (4 * c_))), (1, .int (nI (i + 1))), (0, .ref mo)] → W p l e R s m args below meth c H locs 0 0 Q (F0 m 172 ls [.int (nI (if i + 1 < rd then mixR (subR (encI Wk rd Bk i)) (4 * c_ + k) else subR (encI Wk rd Bk i) (4 * c_ + k))), .int (nI (4 * c_ + k)), .ref ablk])) ?_ (fun L172 => ?_)
                          ·
                            intro  H locs hP hD hS ls hl
                            refine gv_iast (ws' := [(mo, .inr (7, [.int (nI th), .int (nI by_), .ref abuf, .int (nI ks), .ref akey, .int (nI ts), .ref atwk, .int (nI rx), .int (nI mn), .ref arow, .ref abox, .ref awrd, .int (nI rd), .ref ablk, .ref amov, .int (nI za), .int (nI zb), .ref ahA, .ref ahB, .ref ahC, .ref anum, .ref amsg, .ref astr])), (abox, .inl (cI, 256, .inl (gA bx))), (awrd, .inl (cI, 240, .inl (gA w))), (ablk, .inl (cI, 16, .inl (gA (gU b3 (4 * c_ + k) (if i + 1 < rd then mixR (subR (encI Wk rd Bk i)) (4 * c_ + k) else subR (encI Wk rd Bk i) (4 * c_ + k)))))), (amov, .inl (cI, 16, .inl (gA v2)))]) hx hb hK hP hD hS 3 0 rfl rfl rfl (by omega) (by omega) dX8_encipher_172 (fun H locs hP hD hS => ?_)
                            refine lv_iinc (v := nI (k + 1)) (lv' := [(3, .int (nI (k + 1))), (6, .int (nI (mixR (subR (encI Wk rd Bk i)) (4 * c_ + k)))), (5, .int (nI (subR (encI Wk rd Bk i) (4 * c_ + (k + 1) % 4)))), (4, .int (nI (subR (encI Wk rd Bk i) (4 * c_ + k)))), (2, .int (nI (4 * c_))), (1, .int (nI (i + 1))), (0, .ref mo)]) hx hb dX8_encipher_173 hl (k := 3) rfl (gz_inc1 _) (by decide) rfl (fun ls hl => ?_)
                            refine lv_goto (tgt := 80) hx hb dX8_encipher_176 (by decide) ?_
                            exact ih9_80 _ (by omega) (k + 1) (gU b3 (4 * c_ + k) (if i + 1 < rd then mixR (subR (encI Wk rd Bk i)) (4 * c_ + k) else subR (encI Wk rd Bk i) (4 * c_ + k))) rfl (by omega) (fl_s hb3 rfl) _ _ hP hD hS _ (lv_sub hl [0, 4, 5, 6] rfl)
                          refine lv_iload_n hx hb dX8_encipher_157 rfl (lv_at hl 5 rfl) ?_
                          refine lv_aload_n hx hb dX8_encipher_158 rfl (lv_at hl 6 rfl) ?_
                          refine gv_get (own := RX8) (D := (dC, dI)) (ci := 7) (C := RX8) (T := TX8) (N := 23) (v := .int (nI rd)) hx hb hts (by decide +kernel) hown hK hP 0 rfl rfl 12 (by decide) (hts (.fieldLink RX8 70 "NumeralCipherModel" "rounds" "I") (by decide +kernel)) rfl rfl dX8_encipher_159 ?_
                          refine gv_icmp_ge (tgt := 170) hx hb dX8_encipher_162 (by decide) (by omega) (by omega) (fun c_162 => ?_) (fun c_162 => ?_)
                          ·
                            refine lv_iload hx hb dX8_encipher_170 (lv_at hl 2 rfl) ?_
                            refine gv_top (y := nI (if i + 1 < rd then mixR (subR (encI Wk rd Bk i)) (4 * c_ + k) else subR (encI Wk rd Bk i) (4 * c_ + k))) (congrArg nI (if_neg (by omega)).symm) ?_
                            exact L172   _ _ hP hD hS _ hl
                          ·
                            refine lv_iload hx hb dX8_encipher_165 (lv_at hl 0 rfl) ?_
                            refine gv_top (y := nI (if i + 1 < rd then mixR (subR (encI Wk rd Bk i)) (4 * c_ + k) else subR (encI Wk rd Bk i) (4 * c_ + k))) (congrArg nI (if_pos c_162).symm) ?_
                            refine lv_goto (tgt := 172) hx hb dX8_encipher_167 (by decide) ?_
                            exact L172   _ _ hP hD hS _ hl
                    exact L80 _ 0 b2 rfl (by omega) hb2 _ _ hP hD hS _ hl
              exact L72 _ 0 b1 rfl (by omega) (fl_0 (fun _ _ => rfl)) _ _ hP hD hS _ hl
            ·
              refine lv_iconst (v := nI 0) hx hb dX8_encipher_22 (by decide) ?_
              refine lv_istore_n (lv' := [(3, .int (nI 0)), (2, .int (nI c_)), (1, .int (nI (i + 1))), (0, .ref mo)]) hx hb dX8_encipher_23 rfl hl (by decide) rfl (fun ls hl => ?_)
              refine gw_lab (G := fun R args Q => ∀ (n9_24 : Nat) (k : Nat) (v3 : Nat → Nat), n9_24 = 4 - k → (k ≤ 4) → (∀ q, q < 16 → v3 q = if q < 4 * c_ + k then subR (encI Wk rd Bk i) q else v1 q) → ∀ (H : Heap) (locs : List Loc), va_P (dC, dI) vwCl [(mo, .inr (7, [.int (nI th), .int (nI by_), .ref abuf, .int (nI ks), .ref akey, .int (nI ts), .ref atwk, .int (nI rx), .int (nI mn), .ref arow, .ref abox, .ref awrd, .int (nI rd), .ref ablk, .ref amov, .int (nI za), .int (nI zb), .ref ahA, .ref ahB, .ref ahC, .ref anum, .ref amsg, .ref astr])), (abox, .inl (cI, 256, .inl (gA bx))), (awrd, .inl (cI, 240, .inl (gA w))), (ablk, .inl (cI, 16, .inl (gA b1))), (amov, .inl (cI, 16, .inl (gA v3)))] H → va_D A [(mo, .inr (7, [.int (nI th), .int (nI by_), .ref abuf, .int (nI ks), .ref akey, .int (nI ts), .ref atwk, .int (nI rx), .int (nI mn), .ref arow, .ref abox, .ref awrd, .int (nI rd), .ref ablk, .ref amov, .int (nI za), .int (nI zb), .ref ahA, .ref ahB, .ref ahC, .ref anum, .ref amsg, .ref astr])), (abox, .inl (cI, 256, .inl (gA bx))), (awrd, .inl (cI, 240, .inl (gA w))), (ablk, .inl (cI, 16, .inl (gA b1))), (amov, .inl (cI, 16, .inl (gA v3)))] → va_S A s.heap H locs → ∀ (ls : Array Slot), lv_has ls 7 [(3, .int (nI k)), (2, .int (nI c_)), (1, .int (nI (i + 1))), (0, .ref mo)] → W p l e R s m args below meth c H locs 0 0 Q (F0 m 24 ls [])) ?_ (fun L24 => ?_)
              ·
                intro n9_24
                induction n9_24 using Nat.strongRecOn with
                | ind n9_24 ih9_24 =>
                  intro k v3 hmu9_24 hk hv3 H locs hP hD hS ls hl
                  refine lv_iload_n hx hb dX8_encipher_24 rfl (lv_at hl 0 rfl) ?_
                  refine lv_iconst (v := nI 4) hx hb dX8_encipher_25 (by decide) ?_
                  refine gv_icmp_ge (tgt := 64) hx hb dX8_encipher_26 (by decide) (by omega) (by omega) (fun c_26 => ?_) (fun c_26 => ?_)
                  ·
                    have e9 : k = 4 := by omega
                    rw [e9] at hv3
                    refine lv_iinc (v := nI (c_ + 1)) (lv' := [(2, .int (nI (c_ + 1))), (3, .int (nI k)), (1, .int (nI (i + 1))), (0, .ref mo)]) hx hb dX8_encipher_64 hl (k := 1) rfl (gz_inc1 _) (by decide) rfl (fun ls hl => ?_)
                    refine lv_goto (tgt := 17) hx hb dX8_encipher_67 (by decide) ?_
                    exact ih9_17 _ (by omega) (c_ + 1) v3 rfl (by omega) hv3 _ _ hP hD hS _ (lv_sub hl [0, 2, 3] rfl)
                  ·
                    refine lv_aload_n hx hb dX8_encipher_29 rfl (lv_at hl 3 rfl) ?_
                    refine gv_get (own := RX8) (D := (dC, dI)) (ci := 7) (C := RX8) (T := TX8) (N := 23) (v := .ref amov) hx hb hts (by decide +kernel) hown hK hP 0 rfl rfl 14 (by decide) (hts (.fieldLink RX8 38 "NumeralCipherModel" "moved" "[I") (by decide +kernel)) rfl rfl dX8_encipher_30 ?_
                    refine lv_iconst (v := nI 4) hx hb dX8_encipher_33 (by decide) ?_
                    refine lv_iload_n hx hb dX8_encipher_34 rfl (lv_at hl 1 rfl) ?_
                    refine gv_imul (r := 4 * c_) hx hb dX8_encipher_35 rfl ?_
                    refine lv_iload_n hx hb dX8_encipher_36 rfl (lv_at hl 0 rfl) ?_
                    refine gv_iadd (r := (4 * c_) + k) hx hb dX8_encipher_37 rfl ?_
                    refine lv_aload_n hx hb dX8_encipher_38 rfl (lv_at hl 3 rfl) ?_
                    refine gv_get (own := RX8) (D := (dC, dI)) (ci := 7) (C := RX8) (T := TX8) (N := 23) (v := .ref abox) hx hb hts (by decide +kernel) hown hK hP 0 rfl rfl 10 (by decide) (hts (.fieldLink RX8 29 "NumeralCipherModel" "boxOf" "[I") (by decide +kernel)) rfl rfl dX8_encipher_39 ?_
                    refine lv_aload_n hx hb dX8_encipher_42 rfl (lv_at hl 3 rfl) ?_
                    refine gv_get (own := RX8) (D := (dC, dI)) (ci := 7) (C := RX8) (T := TX8) (N := 23) (v := .ref ablk) hx hb hts (by decide +kernel) hown hK hP 0 rfl rfl 13 (by decide) (hts (.fieldLink RX8 35 "NumeralCipherModel" "block" "[I") (by decide +kernel)) rfl rfl dX8_encipher_43 ?_
                    refine lv_iconst (v := nI 4) hx hb dX8_encipher_46 (by decide) ?_
                    refine lv_iload_n hx hb dX8_encipher_47 rfl (lv_at hl 1 rfl) ?_
                    refine lv_iload_n hx hb dX8_encipher_48 rfl (lv_at hl 0 rfl) ?_
                    refine gv_iadd (r := c_ + k) hx hb dX8_encipher_49 rfl ?_
                    refine lv_iconst (v := nI 4) hx hb dX8_encipher_50 (by decide) ?_
                    refine gv_irem (r := (c_ + k) % 4) hx hb dX8_encipher_51 (by omega) (by omega) (by omega) rfl ?_
                    refine gv_imul (r := 4 * ((c_ + k) % 4)) hx hb dX8_encipher_52 rfl ?_
                    refine lv_iload_n hx hb dX8_encipher_53 rfl (lv_at hl 0 rfl) ?_
                    refine gv_iadd (r := (4 * ((c_ + k) % 4)) + k) hx hb dX8_encipher_54 rfl ?_
                    refine gv_iald hx hb hK hP 3 0 rfl rfl (by omega) (by omega) dX8_encipher_55 ?_
                    refine gv_top (y := nI (encI Wk rd Bk i (4 * ((c_ + k) % 4) + k))) (congrArg nI (hf _ (by omega))) ?_
                    have hxx := hX (4 * ((c_ + k) % 4) + k) (by omega)
                    refine gv_iald hx hb hK hP 1 0 rfl rfl hxx (by omega) dX8_encipher_56 ?_
                    refine gv_top (y := nI (subR (encI Wk rd Bk i) (4 * c_ + k))) (congrArg nI ((hbx _ hxx).trans (subR_at (by omega)).symm)) ?_
                    refine gv_iast (ws' := [(mo, .inr (7, [.int (nI th), .int (nI by_), .ref abuf, .int (nI ks), .ref akey, .int (nI ts), .ref atwk, .int (nI rx), .int (nI mn), .ref arow, .ref abox, .ref awrd, .int (nI rd), .ref ablk, .ref amov, .int (nI za), .int (nI zb), .ref ahA, .ref ahB, .ref ahC, .ref anum, .ref amsg, .ref astr])), (abox, .inl (cI, 256, .inl (gA bx))), (awrd, .inl (cI, 240, .inl (gA w))), (ablk, .inl (cI, 16, .inl (gA b1))), (amov, .inl (cI, 16, .inl (gA (gU v3 ((4 * c_) + k) (subR (encI Wk rd Bk i) (4 * c_ + k))))))]) hx hb hK hP hD hS 4 0 rfl rfl rfl (by omega) (by omega) dX8_encipher_57 (fun H locs hP hD hS => ?_)
                    refine lv_iinc (v := nI (k + 1)) (lv' := [(3, .int (nI (k + 1))), (2, .int (nI c_)), (1, .int (nI (i + 1))), (0, .ref mo)]) hx hb dX8_encipher_58 hl (k := 0) rfl (gz_inc1 _) (by decide) rfl (fun ls hl => ?_)
                    refine lv_goto (tgt := 24) hx hb dX8_encipher_61 (by decide) ?_
                    exact ih9_24 _ (by omega) (k + 1) (gU v3 ((4 * c_) + k) (subR (encI Wk rd Bk i) (4 * c_ + k))) rfl (by omega) (fl_s hv3 rfl) _ _ hP hD hS _ hl
              exact L24 _ 0 v2 rfl (by omega) hv _ _ hP hD hS _ hl
        exact L17 _ 0 v1 rfl (by omega) (fl_0 (fun _ _ => rfl)) _ _ hP hD hS _ hl
  exact L7 _ 0 b9_1 v rfl (by omega) hfi _ _ (hP.sub [2, 0, 3, 4, 1] rfl) (hD.sub [2, 0, 3, 4, 1] (by decide) rfl) hS _ hl
