set_option maxHeartbeats 4000000 in
set_option maxRecDepth 100000 in
/-- the class, type: ok -/
theorem c_X7_type_ok (l : Launch) (dC : Nat → ClassId) (dI : Nat → Nat → Nat) (cI : ClassId) (tS : Nat) (sz : Nat) (x : Nat) (bf : Nat) (kb : Nat) (to : Nat) (ro : Nat) (fw : Nat) (sw : Nat) (na : Nat) (wo : Nat) (bc : Nat) (bn : Nat) (V9 : Nat) (n : Nat) (b0 : Nat → Nat) (hV : V9 < 18446744073709551616) (hn1 : 1 ≤ n) (hn2 : n ≤ 8) (hbn : bn + n ≤ 64) : Met l yX7_type wsX7_type ({ frames := 0, cells := 0, slots := 0, locals := 0 }) (gPe dC dI cI tS [.ref x, .long (lN V9), .int (nI n)] [(x, .inr (6, [.ref bf, .ref kb, .ref to, .ref ro, .ref fw, .ref sw, .ref na, .ref wo])), (bf, .inr (1, [.ref bc, .int (nI bn)])), (bc, .inl (cI, 64, .inl (gA b0)))] sz) (va_Qi (fun (r : Int32) (u : (Nat → Nat)) => r = (nI (bn + n)) ∧ (∀ q, q < 64 → u q = tyF V9 bn n b0 q)) (fun u t => gB dC dI cI (va_A [(x, .inr (6, [.ref bf, .ref kb, .ref to, .ref ro, .ref fw, .ref sw, .ref na, .ref wo])), (bf, .inr (1, [.ref bc, .int (nI bn)])), (bc, .inl (cI, 64, .inl (gA b0)))] sz) [(x, .inr (6, [.ref bf, .ref kb, .ref to, .ref ro, .ref fw, .ref sw, .ref na, .ref wo])), (bf, .inr (1, [.ref bc, .int (nI (bn + n))])), (bc, .inl (cI, 64, .inl (gA u)))] t) (va_A [(x, .inr (6, [.ref bf, .ref kb, .ref to, .ref ro, .ref fw, .ref sw, .ref na, .ref wo])), (bf, .inr (1, [.ref bc, .int (nI bn)])), (bc, .inl (cI, 64, .inl (gA b0)))] sz)) 0 0 (va_A [(x, .inr (6, [.ref bf, .ref kb, .ref to, .ref ro, .ref fw, .ref sw, .ref na, .ref wo])), (bf, .inr (1, [.ref bc, .int (nI bn)])), (bc, .inl (cI, 64, .inl (gA b0)))] sz) := by
  refine Met.ofW (cc := cX7_type) (maxL := 5) (ret := (some .int)) (by decide) rfl ?_
  intro p e s m args below meth c s₁ B9 hml hv
  obtain ⟨rfl, hsz, ⟨hP, hK, hD0⟩, hE⟩ := hv
  have hx := B9.exec
  have hb := B9.bytes
  have hr := B9.returns
  have hts := atoms_spec (ws := wsX7_type) B9.pre
  have hown : s.vm.findClass RX7 = some m.cls := findClass_of_methodNamed B9.named
  have hlocks := B9.notSynchronized
  subst hsz
  have hD := hD0.self (sz := s.heap.size)
  generalize hAe : va_A [(x, .inr (6, [.ref bf, .ref kb, .ref to, .ref ro, .ref fw, .ref sw, .ref na, .ref wo])), (bf, .inr (1, [.ref bc, .int (nI bn)])), (bc, .inl (cI, 64, .inl (gA b0)))] s.heap.size = A at hD hE ⊢
  have hA : ∀ q : Nat, s.heap.size ≤ q → A q := fun q h => by rw [← hAe]; exact Or.inr h
  have hS : va_S A s.heap s.heap [] := va_S.rf
  have hl := lv_entry ([.ref x, .long (lN V9), .int (nI n)]) (n := 5) (Nat.le_of_ble_eq_true rfl)
  rw [lg_entry_eq]
  generalize (lg_sl ([.ref x, .long (lN V9), .int (nI n)]) ++ List.replicate (5 - (lg_sl ([.ref x, .long (lN V9), .int (nI n)])).length) Slot.unset).toArray = ls at hl ⊢
  have hl : lv_has ls 5 [(0, .ref x), (1, .long (lN V9)), (3, .int (nI n))] := hl
  refine lv_iload_n hx hb dX7_type_0 rfl (lv_at hl 2 rfl) ?_
  refine lv_iconst (v := nI 1) hx hb dX7_type_1 (by decide) ?_
  refine gv_icmp_lt (tgt := 11) hx hb dX7_type_2 (by decide) (by omega) (by omega) (fun c_2 => ?_) (fun c_2 => ?_)
  ·
    exact absurd c_2 (by omega)
  ·
    refine lv_iload_n hx hb dX7_type_5 rfl (lv_at hl 2 rfl) ?_
    refine lv_bipush (v := nI 8) hx hb dX7_type_6 (by decide) ?_
    refine gv_icmp_le (tgt := 21) hx hb dX7_type_8 (by decide) (by omega) (by omega) (fun c_8 => ?_) (fun c_8 => ?_)
    ·
      refine lv_aload_n hx hb dX7_type_21 rfl (lv_at hl 0 rfl) ?_
      refine gv_get (own := RX7) (D := (dC, dI)) (ci := 6) (C := RX7) (T := TX7) (N := 8) (v := .ref bf) hx hb hts (by decide +kernel) hown hK hP 0 rfl rfl 0 (by decide) (hts (.fieldLink RX7 10 "NumeralCipher" "buffer" "LNumeralCipher$Bytes;") (by decide +kernel)) rfl rfl dX7_type_22 ?_
      refine gv_getN (own := RX7) (D := (dC, dI)) (ci := 1) (C := RX1) (T := TX1) (N := 2) (v := .int (nI bn)) hx hb hts (by decide +kernel) hown hK hP 1 rfl rfl 1 (by decide) (hE.nest (.fieldLinkNest "NumeralCipher" 54 "NumeralCipher$Bytes" "size" "I" "NumeralCipher") (by decide +kernel)) rfl rfl dX7_type_25 ?_
      refine lv_iload_n hx hb dX7_type_28 rfl (lv_at hl 2 rfl) ?_
      refine gv_iadd (r := bn + n) hx hb dX7_type_29 rfl ?_
      refine lv_bipush (v := nI 64) hx hb dX7_type_30 (by decide) ?_
      refine gv_icmp_le (tgt := 45) hx hb dX7_type_32 (by decide) (by omega) (by omega) (fun c_32 => ?_) (fun c_32 => ?_)
      ·
        refine lv_iload_n hx hb dX7_type_45 rfl (lv_at hl 2 rfl) ?_
        refine lv_iconst (v := nI 1) hx hb dX7_type_46 (by decide) ?_
        refine lv_isub hx hb dX7_type_47 ?_
        refine gv_top (y := nI n - 1) rfl ?_
        refine lv_istore (lv' := [(4, .int (nI n - 1)), (0, .ref x), (1, .long (lN V9)), (3, .int (nI n))]) hx hb dX7_type_48 hl (by decide) rfl (fun ls hl => ?_)
        refine gw_lab (G := fun R args Q => ∀ (n9_50 : Nat) (j : Nat) (g : Nat → Nat), n9_50 = j → (j ≤ n) → (∀ q, q < 64 → g q = if bn ≤ q ∧ q < bn + (n - j) then byt V9 (n - 1 - (q - bn)) else b0 q) → ∀ (H : Heap) (locs : List Loc), va_P (dC, dI) vwCl [(x, .inr (6, [.ref bf, .ref kb, .ref to, .ref ro, .ref fw, .ref sw, .ref na, .ref wo])), (bf, .inr (1, [.ref bc, .int (nI (bn + (n - j)))])), (bc, .inl (cI, 64, .inl (gA g)))] H → va_D A [(x, .inr (6, [.ref bf, .ref kb, .ref to, .ref ro, .ref fw, .ref sw, .ref na, .ref wo])), (bf, .inr (1, [.ref bc, .int (nI (bn + (n - j)))])), (bc, .inl (cI, 64, .inl (gA g)))] → va_S A s.heap H locs → ∀ (ls : Array Slot), lv_has ls 5 [(4, .int (nI j - 1)), (0, .ref x), (1, .long (lN V9)), (3, .int (nI n))] → W p l e R s m args below meth c H locs 0 0 Q (F0 m 50 ls [])) ?_ (fun L50 => ?_)
        ·
          intro n9_50
          induction n9_50 using Nat.strongRecOn with
          | ind n9_50 ih9_50 =>
            intro j g hmu9_50 hj hg H locs hP hD hS ls hl
            rcases j with _ | j
            ·
              refine lv_iload hx hb dX7_type_50 (lv_at hl 0 rfl) ?_
              refine lv_if_lt (tgt := 101) hx hb dX7_type_52 (by decide) (fun _ => ?_) (fun c9 => absurd (by decide) c9)
              refine lv_aload_n hx hb dX7_type_101 rfl (lv_at hl 1 rfl) ?_
              refine gv_get (own := RX7) (D := (dC, dI)) (ci := 6) (C := RX7) (T := TX7) (N := 8) (v := .ref bf) hx hb hts (by decide +kernel) hown hK hP 0 rfl rfl 0 (by decide) (hts (.fieldLink RX7 10 "NumeralCipher" "buffer" "LNumeralCipher$Bytes;") (by decide +kernel)) rfl rfl dX7_type_102 ?_
              refine gv_getN (own := RX7) (D := (dC, dI)) (ci := 1) (C := RX1) (T := TX1) (N := 2) (v := .int (nI (bn + (n - 0)))) hx hb hts (by decide +kernel) hown hK hP 1 rfl rfl 1 (by decide) (hE.nest (.fieldLinkNest "NumeralCipher" 54 "NumeralCipher$Bytes" "size" "I" "NumeralCipher") (by decide +kernel)) rfl rfl dX7_type_105 ?_
              refine gv_top (y := (nI (bn + n))) (by rw [Nat.sub_zero]) ?_
              exact W.iret (v := (nI (bn + n))) hx hb hr (fun t ht hW => ⟨⟨_, (g), rfl, ⟨rfl, (ty_e hg)⟩, gB_end ht hW hP hK hD⟩, hS.F ht⟩) hS.2.2 dX7_type_108
            ·
              rw [nI_pred j] at hl
              refine lv_iload hx hb dX7_type_50 (lv_at hl 0 rfl) ?_
              refine gv_if_lt (tgt := 101) hx hb dX7_type_52 (by decide) (by omega) ?_
              refine lv_aload_n hx hb dX7_type_55 rfl (lv_at hl 1 rfl) ?_
              refine gv_get (own := RX7) (D := (dC, dI)) (ci := 6) (C := RX7) (T := TX7) (N := 8) (v := .ref bf) hx hb hts (by decide +kernel) hown hK hP 0 rfl rfl 0 (by decide) (hts (.fieldLink RX7 10 "NumeralCipher" "buffer" "LNumeralCipher$Bytes;") (by decide +kernel)) rfl rfl dX7_type_56 ?_
              refine gv_getN (own := RX7) (D := (dC, dI)) (ci := 1) (C := RX1) (T := TX1) (N := 2) (v := .ref bc) hx hb hts (by decide +kernel) hown hK hP 1 rfl rfl 0 (by decide) (hE.nest (.fieldLinkNest "NumeralCipher" 73 "NumeralCipher$Bytes" "cells" "[I" "NumeralCipher") (by decide +kernel)) rfl rfl dX7_type_59 ?_
              refine lv_aload_n hx hb dX7_type_62 rfl (lv_at hl 1 rfl) ?_
              refine gv_get (own := RX7) (D := (dC, dI)) (ci := 6) (C := RX7) (T := TX7) (N := 8) (v := .ref bf) hx hb hts (by decide +kernel) hown hK hP 0 rfl rfl 0 (by decide) (hts (.fieldLink RX7 10 "NumeralCipher" "buffer" "LNumeralCipher$Bytes;") (by decide +kernel)) rfl rfl dX7_type_63 ?_
              refine gv_getN (own := RX7) (D := (dC, dI)) (ci := 1) (C := RX1) (T := TX1) (N := 2) (v := .int (nI (bn + (n - (j + 1))))) hx hb hts (by decide +kernel) hown hK hP 1 rfl rfl 1 (by decide) (hE.nest (.fieldLinkNest "NumeralCipher" 54 "NumeralCipher$Bytes" "size" "I" "NumeralCipher") (by decide +kernel)) rfl rfl dX7_type_66 ?_
              refine lv_lload_n hx hb dX7_type_69 rfl (lv_at hl 2 rfl) ?_
              refine lv_bipush (v := nI 8) hx hb dX7_type_70 (by decide) ?_
              refine lv_iload hx hb dX7_type_72 (lv_at hl 0 rfl) ?_
              refine gv_imul (r := 8 * j) hx hb dX7_type_74 rfl ?_
              refine gl_lushr (r := V9 / (2 ^ (8 * j))) hx hb dX7_type_75 (by omega) (by omega) rfl ?_
              refine lv_l2i (v := nI (V9 / (2 ^ (8 * j)))) hx hb dX7_type_76 (lN_i _) ?_
              refine lv_sipush (v := nI 255) hx hb dX7_type_77 (by decide) ?_
              refine gv_iand (r := (V9 / (2 ^ (8 * j))) &&& 255) hx hb dX7_type_80 rfl ?_
              refine gv_top (y := nI (byt V9 j)) (congrArg nI (wz_255 _)) ?_
              refine gv_iast (ws' := [(x, .inr (6, [.ref bf, .ref kb, .ref to, .ref ro, .ref fw, .ref sw, .ref na, .ref wo])), (bf, .inr (1, [.ref bc, .int (nI (bn + (n - (j + 1))))])), (bc, .inl (cI, 64, .inl (gA (gU g (bn + (n - (j + 1))) (byt V9 j)))))]) hx hb hK hP hD hS 2 0 rfl rfl rfl (by omega) (by omega) dX7_type_81 (fun H locs hP hD hS => ?_)
              refine lv_aload_n hx hb dX7_type_82 rfl (lv_at hl 1 rfl) ?_
              refine gv_get (own := RX7) (D := (dC, dI)) (ci := 6) (C := RX7) (T := TX7) (N := 8) (v := .ref bf) hx hb hts (by decide +kernel) hown hK hP 0 rfl rfl 0 (by decide) (hts (.fieldLink RX7 10 "NumeralCipher" "buffer" "LNumeralCipher$Bytes;") (by decide +kernel)) rfl rfl dX7_type_83 ?_
              refine lv_dup hx hb dX7_type_86 rfl ?_
              refine gv_getN (own := RX7) (D := (dC, dI)) (ci := 1) (C := RX1) (T := TX1) (N := 2) (v := .int (nI (bn + (n - (j + 1))))) hx hb hts (by decide +kernel) hown hK hP 1 rfl rfl 1 (by decide) (hE.nest (.fieldLinkNest "NumeralCipher" 54 "NumeralCipher$Bytes" "size" "I" "NumeralCipher") (by decide +kernel)) rfl rfl dX7_type_87 ?_
              refine lv_iconst (v := nI 1) hx hb dX7_type_90 (by decide) ?_
              refine gv_iadd (r := (bn + (n - (j + 1))) + 1) hx hb dX7_type_91 rfl ?_
              refine gv_putN (own := RX7) (D := (dC, dI)) (ci := 1) (C := RX1) (T := TX1) (N := 2) (ws' := [(x, .inr (6, [.ref bf, .ref kb, .ref to, .ref ro, .ref fw, .ref sw, .ref na, .ref wo])), (bf, .inr (1, [.ref bc, .int (nI ((bn + (n - (j + 1))) + 1))])), (bc, .inl (cI, 64, .inl (gA (gU g (bn + (n - (j + 1))) (byt V9 j)))))]) hx hb hts (by decide +kernel) tyX1 tyX1_ok nmX1 hown hK hP hD hS 1 rfl rfl 1 (by decide) (hE.nest (.fieldLinkNest "NumeralCipher" 54 "NumeralCipher$Bytes" "size" "I" "NumeralCipher") (by decide +kernel)) rfl rfl (by decide +kernel) (Nat.le_of_ble_eq_true rfl) rfl dX7_type_92 (fun H locs hP hD hS => ?_)
              refine lv_iinc (v := nI j - 1) (lv' := [(4, .int (nI j - 1)), (0, .ref x), (1, .long (lN V9)), (3, .int (nI n))]) hx hb dX7_type_95 hl (k := 0) rfl (gz_pred1 _) (by decide) rfl (fun ls hl => ?_)
              refine lv_goto (tgt := 50) hx hb dX7_type_98 (by decide) ?_
              rw [show bn + (n - (j + 1)) + 1 = bn + (n - j) by omega] at hP hD
              exact ih9_50 _ (by omega) j (gU g (bn + (n - (j + 1))) (byt V9 j)) rfl (by omega) (ty_s (by omega) hg rfl) _ _ hP hD hS _ hl
        rw [show bn = bn + (n - n) by omega] at hP hD
        exact L50 _ n b0 rfl (by omega) ty_0 _ _ hP hD hS _ hl
      ·
        exact absurd c_32 (by omega)
    ·
      exact absurd c_8 (by omega)

set_option maxHeartbeats 4000000 in
set_option maxRecDepth 100000 in
/-- the class, keep: ok -/
theorem c_X7_keep_ok (l : Launch) (dC : Nat → ClassId) (dI : Nat → Nat → Nat) (cI : ClassId) (tS : Nat) (sz : Nat) (x : Nat) (bf : Nat) (kb : Nat) (to : Nat) (ro : Nat) (fw : Nat) (sw : Nat) (na : Nat) (wo : Nat) (bc : Nat) (bn : Nat) (n : Nat) (hn : n ≤ bn) (hb : bn ≤ 64) : Met l yX7_keep wsX7_keep ({ frames := 0, cells := 0, slots := 0, locals := 0 }) (gPe dC dI cI tS [.ref x, .int (nI n)] [(x, .inr (6, [.ref bf, .ref kb, .ref to, .ref ro, .ref fw, .ref sw, .ref na, .ref wo])), (bf, .inr (1, [.ref bc, .int (nI bn)]))] sz) (va_Qv (fun _u : Unit => True) (fun _u t => gB dC dI cI (va_A [(x, .inr (6, [.ref bf, .ref kb, .ref to, .ref ro, .ref fw, .ref sw, .ref na, .ref wo])), (bf, .inr (1, [.ref bc, .int (nI bn)]))] sz) [(x, .inr (6, [.ref bf, .ref kb, .ref to, .ref ro, .ref fw, .ref sw, .ref na, .ref wo])), (bf, .inr (1, [.ref bc, .int (nI n)]))] t) (va_A [(x, .inr (6, [.ref bf, .ref kb, .ref to, .ref ro, .ref fw, .ref sw, .ref na, .ref wo])), (bf, .inr (1, [.ref bc, .int (nI bn)]))] sz)) 0 0 (va_A [(x, .inr (6, [.ref bf, .ref kb, .ref to, .ref ro, .ref fw, .ref sw, .ref na, .ref wo])), (bf, .inr (1, [.ref bc, .int (nI bn)]))] sz) := by
  refine Met.ofW (cc := cX7_keep) (maxL := 2) (ret := none) (by decide) rfl ?_
  intro p e s m args below meth c s₁ B9 hml hv
  obtain ⟨rfl, hsz, ⟨hP, hK, hD0⟩, hE⟩ := hv
  have hx := B9.exec
  have hb := B9.bytes
  have hr := B9.returns
  have hts := atoms_spec (ws := wsX7_keep) B9.pre
  have hown : s.vm.findClass RX7 = some m.cls := findClass_of_methodNamed B9.named
  have hlocks := B9.notSynchronized
  subst hsz
  have hD := hD0.self (sz := s.heap.size)
  generalize hAe : va_A [(x, .inr (6, [.ref bf, .ref kb, .ref to, .ref ro, .ref fw, .ref sw, .ref na, .ref wo])), (bf, .inr (1, [.ref bc, .int (nI bn)]))] s.heap.size = A at hD hE ⊢
  have hA : ∀ q : Nat, s.heap.size ≤ q → A q := fun q h => by rw [← hAe]; exact Or.inr h
  have hS : va_S A s.heap s.heap [] := va_S.rf
  have hl := lv_entry ([.ref x, .int (nI n)]) (n := 2) (Nat.le_of_ble_eq_true rfl)
  rw [lg_entry_eq]
  generalize (lg_sl ([.ref x, .int (nI n)]) ++ List.replicate (2 - (lg_sl ([.ref x, .int (nI n)])).length) Slot.unset).toArray = ls at hl ⊢
  have hl : lv_has ls 2 [(0, .ref x), (1, .int (nI n))] := hl
  refine lv_iload_n hx hb dX7_keep_0 rfl (lv_at hl 1 rfl) ?_
  refine gv_if_lt (tgt := 15) hx hb dX7_keep_1 (by decide) (by omega) ?_
  refine lv_iload_n hx hb dX7_keep_4 rfl (lv_at hl 1 rfl) ?_
  refine lv_aload_n hx hb dX7_keep_5 rfl (lv_at hl 0 rfl) ?_
  refine gv_get (own := RX7) (D := (dC, dI)) (ci := 6) (C := RX7) (T := TX7) (N := 8) (v := .ref bf) hx hb hts (by decide +kernel) hown hK hP 0 rfl rfl 0 (by decide) (hts (.fieldLink RX7 10 "NumeralCipher" "buffer" "LNumeralCipher$Bytes;") (by decide +kernel)) rfl rfl dX7_keep_6 ?_
  refine gv_getN (own := RX7) (D := (dC, dI)) (ci := 1) (C := RX1) (T := TX1) (N := 2) (v := .int (nI bn)) hx hb hts (by decide +kernel) hown hK hP 1 rfl rfl 1 (by decide) (hE.nest (.fieldLinkNest "NumeralCipher" 54 "NumeralCipher$Bytes" "size" "I" "NumeralCipher") (by decide +kernel)) rfl rfl dX7_keep_9 ?_
  refine gv_icmp_le (tgt := 25) hx hb dX7_keep_12 (by decide) (by omega) (by omega) (fun c_12 => ?_) (fun c_12 => ?_)
  ·
    refine lv_aload_n hx hb dX7_keep_25 rfl (lv_at hl 0 rfl) ?_
    refine gv_get (own := RX7) (D := (dC, dI)) (ci := 6) (C := RX7) (T := TX7) (N := 8) (v := .ref bf) hx hb hts (by decide +kernel) hown hK hP 0 rfl rfl 0 (by decide) (hts (.fieldLink RX7 10 "NumeralCipher" "buffer" "LNumeralCipher$Bytes;") (by decide +kernel)) rfl rfl dX7_keep_26 ?_
    refine lv_iload_n hx hb dX7_keep_29 rfl (lv_at hl 1 rfl) ?_
    refine gv_putN (own := RX7) (D := (dC, dI)) (ci := 1) (C := RX1) (T := TX1) (N := 2) (ws' := [(x, .inr (6, [.ref bf, .ref kb, .ref to, .ref ro, .ref fw, .ref sw, .ref na, .ref wo])), (bf, .inr (1, [.ref bc, .int (nI n)]))]) hx hb hts (by decide +kernel) tyX1 tyX1_ok nmX1 hown hK hP hD hS 1 rfl rfl 1 (by decide) (hE.nest (.fieldLinkNest "NumeralCipher" 54 "NumeralCipher$Bytes" "size" "I" "NumeralCipher") (by decide +kernel)) rfl rfl (by decide +kernel) (Nat.le_of_ble_eq_true rfl) rfl dX7_keep_30 (fun H locs hP hD hS => ?_)
    exact W.vret hx hb hr (fun t ht hW => ⟨⟨(), rfl, trivial, gB_end ht hW hP hK hD⟩, hS.F ht⟩) hS.2.2 dX7_keep_33
  ·
    exact absurd c_12 (by omega)

set_option maxHeartbeats 4000000 in
set_option maxRecDepth 100000 in
/-- the class, typed: ok -/
theorem c_X7_typed_ok (l : Launch) (dC : Nat → ClassId) (dI : Nat → Nat → Nat) (cI : ClassId) (tS : Nat) (sz : Nat) (x : Nat) (bf : Nat) (kb : Nat) (to : Nat) (ro : Nat) (fw : Nat) (sw : Nat) (na : Nat) (wo : Nat) (bc : Nat) (bn : Nat) (i : Nat) (b0 : Nat → Nat) (hn : i < bn) (hb : bn ≤ 64) : Met l yX7_typed wsX7_typed ({ frames := 0, cells := 0, slots := 0, locals := 0 }) (gPe dC dI cI tS [.ref x, .int (nI i)] [(x, .inr (6, [.ref bf, .ref kb, .ref to, .ref ro, .ref fw, .ref sw, .ref na, .ref wo])), (bf, .inr (1, [.ref bc, .int (nI bn)])), (bc, .inl (cI, 64, .inl (gA b0)))] sz) (va_Qi (fun (r : Int32) (_u : Unit) => r = (nI (b0 i))) (fun _u t => gB dC dI cI (va_A [(x, .inr (6, [.ref bf, .ref kb, .ref to, .ref ro, .ref fw, .ref sw, .ref na, .ref wo])), (bf, .inr (1, [.ref bc, .int (nI bn)])), (bc, .inl (cI, 64, .inl (gA b0)))] sz) [(x, .inr (6, [.ref bf, .ref kb, .ref to, .ref ro, .ref fw, .ref sw, .ref na, .ref wo])), (bf, .inr (1, [.ref bc, .int (nI bn)])), (bc, .inl (cI, 64, .inl (gA b0)))] t) (va_A [(x, .inr (6, [.ref bf, .ref kb, .ref to, .ref ro, .ref fw, .ref sw, .ref na, .ref wo])), (bf, .inr (1, [.ref bc, .int (nI bn)])), (bc, .inl (cI, 64, .inl (gA b0)))] sz)) 0 0 (va_A [(x, .inr (6, [.ref bf, .ref kb, .ref to, .ref ro, .ref fw, .ref sw, .ref na, .ref wo])), (bf, .inr (1, [.ref bc, .int (nI bn)])), (bc, .inl (cI, 64, .inl (gA b0)))] sz) := by
  refine Met.ofW (cc := cX7_typed) (maxL := 2) (ret := (some .int)) (by decide) rfl ?_
  intro p e s m args below meth c s₁ B9 hml hv
  obtain ⟨rfl, hsz, ⟨hP, hK, hD0⟩, hE⟩ := hv
  have hx := B9.exec
  have hb := B9.bytes
  have hr := B9.returns
  have hts := atoms_spec (ws := wsX7_typed) B9.pre
  have hown : s.vm.findClass RX7 = some m.cls := findClass_of_methodNamed B9.named
  have hlocks := B9.notSynchronized
  subst hsz
  have hD := hD0.self (sz := s.heap.size)
  generalize hAe : va_A [(x, .inr (6, [.ref bf, .ref kb, .ref to, .ref ro, .ref fw, .ref sw, .ref na, .ref wo])), (bf, .inr (1, [.ref bc, .int (nI bn)])), (bc, .inl (cI, 64, .inl (gA b0)))] s.heap.size = A at hD hE ⊢
  have hA : ∀ q : Nat, s.heap.size ≤ q → A q := fun q h => by rw [← hAe]; exact Or.inr h
  have hS : va_S A s.heap s.heap [] := va_S.rf
  have hl := lv_entry ([.ref x, .int (nI i)]) (n := 2) (Nat.le_of_ble_eq_true rfl)
  rw [lg_entry_eq]
  generalize (lg_sl ([.ref x, .int (nI i)]) ++ List.replicate (2 - (lg_sl ([.ref x, .int (nI i)])).length) Slot.unset).toArray = ls at hl ⊢
  have hl : lv_has ls 2 [(0, .ref x), (1, .int (nI i))] := hl
  refine lv_iload_n hx hb dX7_typed_0 rfl (lv_at hl 1 rfl) ?_
  refine gv_if_lt (tgt := 15) hx hb dX7_typed_1 (by decide) (by omega) ?_
  refine lv_iload_n hx hb dX7_typed_4 rfl (lv_at hl 1 rfl) ?_
  refine lv_aload_n hx hb dX7_typed_5 rfl (lv_at hl 0 rfl) ?_
  refine gv_get (own := RX7) (D := (dC, dI)) (ci := 6) (C := RX7) (T := TX7) (N := 8) (v := .ref bf) hx hb hts (by decide +kernel) hown hK hP 0 rfl rfl 0 (by decide) (hts (.fieldLink RX7 10 "NumeralCipher" "buffer" "LNumeralCipher$Bytes;") (by decide +kernel)) rfl rfl dX7_typed_6 ?_
  refine gv_getN (own := RX7) (D := (dC, dI)) (ci := 1) (C := RX1) (T := TX1) (N := 2) (v := .int (nI bn)) hx hb hts (by decide +kernel) hown hK hP 1 rfl rfl 1 (by decide) (hE.nest (.fieldLinkNest "NumeralCipher" 54 "NumeralCipher$Bytes" "size" "I" "NumeralCipher") (by decide +kernel)) rfl rfl dX7_typed_9 ?_
  refine gv_icmp_lt (tgt := 25) hx hb dX7_typed_12 (by decide) (by omega) (by omega) (fun c_12 => ?_) (fun c_12 => ?_)
  ·
    refine lv_aload_n hx hb dX7_typed_25 rfl (lv_at hl 0 rfl) ?_
    refine gv_get (own := RX7) (D := (dC, dI)) (ci := 6) (C := RX7) (T := TX7) (N := 8) (v := .ref bf) hx hb hts (by decide +kernel) hown hK hP 0 rfl rfl 0 (by decide) (hts (.fieldLink RX7 10 "NumeralCipher" "buffer" "LNumeralCipher$Bytes;") (by decide +kernel)) rfl rfl dX7_typed_26 ?_
    refine gv_getN (own := RX7) (D := (dC, dI)) (ci := 1) (C := RX1) (T := TX1) (N := 2) (v := .ref bc) hx hb hts (by decide +kernel) hown hK hP 1 rfl rfl 0 (by decide) (hE.nest (.fieldLinkNest "NumeralCipher" 73 "NumeralCipher$Bytes" "cells" "[I" "NumeralCipher") (by decide +kernel)) rfl rfl dX7_typed_29 ?_
    refine lv_iload_n hx hb dX7_typed_32 rfl (lv_at hl 1 rfl) ?_
    refine gv_iald hx hb hK hP 2 0 rfl rfl (by omega) (by omega) dX7_typed_33 ?_
    exact W.iret (v := (nI (b0 i))) hx hb hr (fun t ht hW => ⟨⟨_, (), rfl, rfl, gB_end ht hW hP hK hD⟩, hS.F ht⟩) hS.2.2 dX7_typed_34
  ·
    exact absurd c_12 (by omega)

set_option maxHeartbeats 4000000 in
set_option maxRecDepth 100000 in
/-- the class, key: ok -/
theorem c_X7_key_ok (l : Launch) (dC : Nat → ClassId) (dI : Nat → Nat → Nat) (cI : ClassId) (tS : Nat) (sz : Nat) (x : Nat) (bf : Nat) (kb : Nat) (to : Nat) (ro : Nat) (fw : Nat) (sw : Nat) (na : Nat) (wo : Nat) (bc : Nat) (bn : Nat) (kc : Nat) (kn : Nat) (ci : Nat) (tw : Nat) (stt : Nat) (chd : Nat) (spr : Nat) (sc : Nat) (mv : Nat) (ci2 : Nat) (tu : Nat) (sc2 : Nat) (mv2 : Nat) (iw : Nat) (rp : Nat) (aw : Nat) (lf : Nat) (rt : Nat) (r1 : Nat) (r2 : Nat) (b0 : Nat → Nat) (k0 : Nat → Nat) (w1 : Nat → Nat) (w2 : Nat → Nat) (hn : bn = 16 ∨ bn = 24 ∨ bn = 32) (hb0 : ∀ j, j < 64 → b0 j < 256) : Met l yX7_key wsX7_key ({ frames := 4, cells := 0, slots := 0, locals := 87 }) (gPe dC dI cI tS [.ref x] [(x, .inr (6, [.ref bf, .ref kb, .ref to, .ref ro, .ref fw, .ref sw, .ref na, .ref wo])), (bf, .inr (1, [.ref bc, .int (nI bn)])), (bc, .inl (cI, 64, .inl (gA b0))), (kb, .inr (1, [.ref kc, .int (nI kn)])), (kc, .inl (cI, 64, .inl (gA k0))), (fw, .inr (2, [.ref ci, .ref tw, .ref stt, .ref chd, .ref spr, .int (nI iw), .int (nI rp), .int (nI aw)])), (ci, .inr (0, [.ref sc, .ref mv, .int (nI r1)])), (sc, .inl (cI, 60, .inl (gA w1))), (sw, .inr (5, [.ref ci2, .ref tu, .int (nI lf), .int (nI rt)])), (ci2, .inr (0, [.ref sc2, .ref mv2, .int (nI r2)])), (sc2, .inl (cI, 60, .inl (gA w2)))] sz) (va_Qi (fun (r : Int32) (u : (Nat → Nat) × (Nat → Nat) × (Nat → Nat)) => r = (nI (bn / 4 + 6)) ∧ (∀ q, q < 64 → u.1 q = if q < bn then b0 q else 0) ∧ (∀ k, k < 4 * (bn / 4 + 7) → u.2.1 k = pkf (ksS (keyK 0 u.1 (bn / 4)) (bn / 4) (3 * (bn / 4) + 28)) k) ∧ (∀ k, k < 4 * (bn / 4 + 7) → u.2.2 k = pkf (ksS (keyK 1 u.1 (bn / 4)) (bn / 4) (3 * (bn / 4) + 28)) k)) (fun u t => gB dC dI cI (va_A [(x, .inr (6, [.ref bf, .ref kb, .ref to, .ref ro, .ref fw, .ref sw, .ref na, .ref wo])), (bf, .inr (1, [.ref bc, .int (nI bn)])), (bc, .inl (cI, 64, .inl (gA b0))), (kb, .inr (1, [.ref kc, .int (nI kn)])), (kc, .inl (cI, 64, .inl (gA k0))), (fw, .inr (2, [.ref ci, .ref tw, .ref stt, .ref chd, .ref spr, .int (nI iw), .int (nI rp), .int (nI aw)])), (ci, .inr (0, [.ref sc, .ref mv, .int (nI r1)])), (sc, .inl (cI, 60, .inl (gA w1))), (sw, .inr (5, [.ref ci2, .ref tu, .int (nI lf), .int (nI rt)])), (ci2, .inr (0, [.ref sc2, .ref mv2, .int (nI r2)])), (sc2, .inl (cI, 60, .inl (gA w2)))] sz) [(x, .inr (6, [.ref bf, .ref kb, .ref to, .ref ro, .ref fw, .ref sw, .ref na, .ref wo])), (bf, .inr (1, [.ref bc, .int (nI 0)])), (bc, .inl (cI, 64, .inl (gA b0))), (kb, .inr (1, [.ref kc, .int (nI bn)])), (kc, .inl (cI, 64, .inl (gA u.1))), (fw, .inr (2, [.ref ci, .ref tw, .ref stt, .ref chd, .ref spr, .int (nI iw), .int (nI rp), .int (nI aw)])), (ci, .inr (0, [.ref sc, .ref mv, .int (nI (bn / 4 + 6))])), (sc, .inl (cI, 60, .inl (gA u.2.1))), (sw, .inr (5, [.ref ci2, .ref tu, .int (nI lf), .int (nI rt)])), (ci2, .inr (0, [.ref sc2, .ref mv2, .int (nI (bn / 4 + 6))])), (sc2, .inl (cI, 60, .inl (gA u.2.2)))] t) (va_A [(x, .inr (6, [.ref bf, .ref kb, .ref to, .ref ro, .ref fw, .ref sw, .ref na, .ref wo])), (bf, .inr (1, [.ref bc, .int (nI bn)])), (bc, .inl (cI, 64, .inl (gA b0))), (kb, .inr (1, [.ref kc, .int (nI kn)])), (kc, .inl (cI, 64, .inl (gA k0))), (fw, .inr (2, [.ref ci, .ref tw, .ref stt, .ref chd, .ref spr, .int (nI iw), .int (nI rp), .int (nI aw)])), (ci, .inr (0, [.ref sc, .ref mv, .int (nI r1)])), (sc, .inl (cI, 60, .inl (gA w1))), (sw, .inr (5, [.ref ci2, .ref tu, .int (nI lf), .int (nI rt)])), (ci2, .inr (0, [.ref sc2, .ref mv2, .int (nI r2)])), (sc2, .inl (cI, 60, .inl (gA w2)))] sz)) 0 0 (va_A [(x, .inr (6, [.ref bf, .ref kb, .ref to, .ref ro, .ref fw, .ref sw, .ref na, .ref wo])), (bf, .inr (1, [.ref bc, .int (nI bn)])), (bc, .inl (cI, 64, .inl (gA b0))), (kb, .inr (1, [.ref kc, .int (nI kn)])), (kc, .inl (cI, 64, .inl (gA k0))), (fw, .inr (2, [.ref ci, .ref tw, .ref stt, .ref chd, .ref spr, .int (nI iw), .int (nI rp), .int (nI aw)])), (ci, .inr (0, [.ref sc, .ref mv, .int (nI r1)])), (sc, .inl (cI, 60, .inl (gA w1))), (sw, .inr (5, [.ref ci2, .ref tu, .int (nI lf), .int (nI rt)])), (ci2, .inr (0, [.ref sc2, .ref mv2, .int (nI r2)])), (sc2, .inl (cI, 60, .inl (gA w2)))] sz) := by
  refine Met.ofW (cc := cX7_key) (maxL := 1) (ret := (some .int)) (by decide) rfl ?_
  intro p e s m args below meth c s₁ B9 hml hv
  obtain ⟨rfl, hsz, ⟨hP, hK, hD0⟩, hE⟩ := hv
  have hx := B9.exec
  have hb := B9.bytes
  have hr := B9.returns
  have hts := atoms_spec (ws := wsX7_key) B9.pre
  have hown : s.vm.findClass RX7 = some m.cls := findClass_of_methodNamed B9.named
  have hlocks := B9.notSynchronized
  subst hsz
  have hD := hD0.self (sz := s.heap.size)
  generalize hAe : va_A [(x, .inr (6, [.ref bf, .ref kb, .ref to, .ref ro, .ref fw, .ref sw, .ref na, .ref wo])), (bf, .inr (1, [.ref bc, .int (nI bn)])), (bc, .inl (cI, 64, .inl (gA b0))), (kb, .inr (1, [.ref kc, .int (nI kn)])), (kc, .inl (cI, 64, .inl (gA k0))), (fw, .inr (2, [.ref ci, .ref tw, .ref stt, .ref chd, .ref spr, .int (nI iw), .int (nI rp), .int (nI aw)])), (ci, .inr (0, [.ref sc, .ref mv, .int (nI r1)])), (sc, .inl (cI, 60, .inl (gA w1))), (sw, .inr (5, [.ref ci2, .ref tu, .int (nI lf), .int (nI rt)])), (ci2, .inr (0, [.ref sc2, .ref mv2, .int (nI r2)])), (sc2, .inl (cI, 60, .inl (gA w2)))] s.heap.size = A at hD hE ⊢
  have hA : ∀ q : Nat, s.heap.size ≤ q → A q := fun q h => by rw [← hAe]; exact Or.inr h
  have hS : va_S A s.heap s.heap [] := va_S.rf
  have hl := lv_entry ([.ref x]) (n := 1) (Nat.le_of_ble_eq_true rfl)
  rw [lg_entry_eq]
  generalize (lg_sl ([.ref x]) ++ List.replicate (1 - (lg_sl ([.ref x])).length) Slot.unset).toArray = ls at hl ⊢
  have hl : lv_has ls 1 [(0, .ref x)] := hl
  refine gw_lab (G := fun R args Q =>  ∀ (H : Heap) (locs : List Loc), va_P (dC, dI) vwCl [(x, .inr (6, [.ref bf, .ref kb, .ref to, .ref ro, .ref fw, .ref sw, .ref na, .ref wo])), (bf, .inr (1, [.ref bc, .int (nI bn)])), (bc, .inl (cI, 64, .inl (gA b0))), (kb, .inr (1, [.ref kc, .int (nI kn)])), (kc, .inl (cI, 64, .inl (gA k0))), (fw, .inr (2, [.ref ci, .ref tw, .ref stt, .ref chd, .ref spr, .int (nI iw), .int (nI rp), .int (nI aw)])), (ci, .inr (0, [.ref sc, .ref mv, .int (nI r1)])), (sc, .inl (cI, 60, .inl (gA w1))), (sw, .inr (5, [.ref ci2, .ref tu, .int (nI lf), .int (nI rt)])), (ci2, .inr (0, [.ref sc2, .ref mv2, .int (nI r2)])), (sc2, .inl (cI, 60, .inl (gA w2)))] H → va_D A [(x, .inr (6, [.ref bf, .ref kb, .ref to, .ref ro, .ref fw, .ref sw, .ref na, .ref wo])), (bf, .inr (1, [.ref bc, .int (nI bn)])), (bc, .inl (cI, 64, .inl (gA b0))), (kb, .inr (1, [.ref kc, .int (nI kn)])), (kc, .inl (cI, 64, .inl (gA k0))), (fw, .inr (2, [.ref ci, .ref tw, .ref stt, .ref chd, .ref spr, .int (nI iw), .int (nI rp), .int (nI aw)])), (ci, .inr (0, [.ref sc, .ref mv, .int (nI r1)])), (sc, .inl (cI, 60, .inl (gA w1))), (sw, .inr (5, [.ref ci2, .ref tu, .int (nI lf), .int (nI rt)])), (ci2, .inr (0, [.ref sc2, .ref mv2, .int (nI r2)])), (sc2, .inl (cI, 60, .inl (gA w2)))] → va_S A s.heap H locs → ∀ (ls : Array Slot), lv_has ls 1 [(0, .ref x)] → W p l e R s m args below meth c H locs 0 0 Q (F0 m 46 ls [])) ?_ (fun L46 => ?_)
  ·
    intro  H locs hP hD hS ls hl
    refine lv_aload_n hx hb dX7_key_46 rfl (lv_at hl 0 rfl) ?_
    refine gv_get (own := RX7) (D := (dC, dI)) (ci := 6) (C := RX7) (T := TX7) (N := 8) (v := .ref kb) hx hb hts (by decide +kernel) hown hK hP 0 rfl rfl 1 (by decide) (hts (.fieldLink RX7 16 "NumeralCipher" "keyBytes" "LNumeralCipher$Bytes;") (by decide +kernel)) rfl rfl dX7_key_47 ?_
    refine lv_aload_n hx hb dX7_key_50 rfl (lv_at hl 0 rfl) ?_
    refine gv_get (own := RX7) (D := (dC, dI)) (ci := 6) (C := RX7) (T := TX7) (N := 8) (v := .ref bf) hx hb hts (by decide +kernel) hown hK hP 0 rfl rfl 0 (by decide) (hts (.fieldLink RX7 10 "NumeralCipher" "buffer" "LNumeralCipher$Bytes;") (by decide +kernel)) rfl rfl dX7_key_51 ?_
    have hPc := hP.sub (ws' := [(kb, .inr (1, [.ref kc, .int (nI kn)])), (kc, .inl (cI, 64, .inl (gA k0))), (bf, .inr (1, [.ref bc, .int (nI bn)])), (bc, .inl (cI, 64, .inl (gA b0)))]) [3, 4, 1, 2] rfl
    have hDc := hD.sub (ws' := [(kb, .inr (1, [.ref kc, .int (nI kn)])), (kc, .inl (cI, 64, .inl (gA k0))), (bf, .inr (1, [.ref bc, .int (nI bn)])), (bc, .inl (cI, 64, .inl (gA b0)))]) [3, 4, 1, 2] (by decide) rfl
    have hFc := va_free (wc := [(kb, .inr (1, [.ref kc, .int (nI kn)])), (kc, .inl (cI, 64, .inl (gA k0))), (bf, .inr (1, [.ref bc, .int (nI bn)])), (bc, .inl (cI, 64, .inl (gA b0)))]) hD hS hA [3, 4, 1, 2] rfl
    refine va_callv (va_runV (As := [.ref bf]) (rest := []) ⟨hx, hb, hml, hown, hts⟩ (c_X1_takeAll l dC dI cI H.size kb kc bf bc kn bn k0 b0 (by omega)) (cwV 1 hts gX7_key_X1_takeAll rfl rfl rfl (by decide +kernel) ⟨Nat.le_of_ble_eq_true rfl, Nat.le_of_ble_eq_true rfl⟩) ⟨gPc_blind, va_recv hK hPc (ci := 1) (q0 := 0) rfl rfl, gPc_pre hPc hK hDc⟩ rfl rfl hl.1 rfl (lv_room (Nat.le_of_ble_eq_true rfl)) dX7_key_54 ⟨Nat.zero_le _, Nat.zero_le _⟩) hS (fun q _ h => hFc q h) hFc (fun u8 t8 H1 locs ht hvm hw hB hz1 hk1 hS => ?_)
    obtain ⟨f9_1, rfl⟩ : ∃ z, z = u8 := ⟨_, rfl⟩
    try dsimp only at hw hB
    obtain ⟨hP, hD⟩ := gB_join (wr := [(x, .inr (6, [.ref bf, .ref kb, .ref to, .ref ro, .ref fw, .ref sw, .ref na, .ref wo])), (fw, .inr (2, [.ref ci, .ref tw, .ref stt, .ref chd, .ref spr, .int (nI iw), .int (nI rp), .int (nI aw)])), (ci, .inr (0, [.ref sc, .ref mv, .int (nI r1)])), (sc, .inl (cI, 60, .inl (gA w1))), (sw, .inr (5, [.ref ci2, .ref tu, .int (nI lf), .int (nI rt)])), (ci2, .inr (0, [.ref sc2, .ref mv2, .int (nI r2)])), (sc2, .inl (cI, 60, .inl (gA w2)))]) (w2 := [(x, .inr (6, [.ref bf, .ref kb, .ref to, .ref ro, .ref fw, .ref sw, .ref na, .ref wo])), (fw, .inr (2, [.ref ci, .ref tw, .ref stt, .ref chd, .ref spr, .int (nI iw), .int (nI rp), .int (nI aw)])), (ci, .inr (0, [.ref sc, .ref mv, .int (nI r1)])), (sc, .inl (cI, 60, .inl (gA w1))), (sw, .inr (5, [.ref ci2, .ref tu, .int (nI lf), .int (nI rt)])), (ci2, .inr (0, [.ref sc2, .ref mv2, .int (nI r2)])), (sc2, .inl (cI, 60, .inl (gA w2))), (kb, .inr (1, [.ref kc, .int (nI bn)])), (kc, .inl (cI, 64, .inl (gA f9_1))), (bf, .inr (1, [.ref bc, .int (nI 0)])), (bc, .inl (cI, 64, .inl (gA b0)))]) hP hD [3, 4, 1, 2] [0, 5, 6, 7, 8, 9, 10] rfl rfl (by decide) (by decide) hk1 hFc ht hB rfl
    clear hk1 hz1 ht hB hvm hPc hDc hFc
    generalize H1 = H at hP hS ⊢
    have hk9 := hw
    have hk256 := take_lt hk9 hb0
    refine lv_aload_n hx hb dX7_key_57 rfl (lv_at hl 0 rfl) ?_
    have hPc := hP.sub (ws' := [(x, .inr (6, [.ref bf, .ref kb, .ref to, .ref ro, .ref fw, .ref sw, .ref na, .ref wo])), (kb, .inr (1, [.ref kc, .int (nI bn)])), (kc, .inl (cI, 64, .inl (gA f9_1))), (fw, .inr (2, [.ref ci, .ref tw, .ref stt, .ref chd, .ref spr, .int (nI iw), .int (nI rp), .int (nI aw)])), (ci, .inr (0, [.ref sc, .ref mv, .int (nI r1)])), (sc, .inl (cI, 60, .inl (gA w1))), (sw, .inr (5, [.ref ci2, .ref tu, .int (nI lf), .int (nI rt)])), (ci2, .inr (0, [.ref sc2, .ref mv2, .int (nI r2)])), (sc2, .inl (cI, 60, .inl (gA w2)))]) [0, 7, 8, 1, 2, 3, 4, 5, 6] rfl
    have hDc := hD.sub (ws' := [(x, .inr (6, [.ref bf, .ref kb, .ref to, .ref ro, .ref fw, .ref sw, .ref na, .ref wo])), (kb, .inr (1, [.ref kc, .int (nI bn)])), (kc, .inl (cI, 64, .inl (gA f9_1))), (fw, .inr (2, [.ref ci, .ref tw, .ref stt, .ref chd, .ref spr, .int (nI iw), .int (nI rp), .int (nI aw)])), (ci, .inr (0, [.ref sc, .ref mv, .int (nI r1)])), (sc, .inl (cI, 60, .inl (gA w1))), (sw, .inr (5, [.ref ci2, .ref tu, .int (nI lf), .int (nI rt)])), (ci2, .inr (0, [.ref sc2, .ref mv2, .int (nI r2)])), (sc2, .inl (cI, 60, .inl (gA w2)))]) [0, 7, 8, 1, 2, 3, 4, 5, 6] (by decide) rfl
    have hFc := va_free (wc := [(x, .inr (6, [.ref bf, .ref kb, .ref to, .ref ro, .ref fw, .ref sw, .ref na, .ref wo])), (kb, .inr (1, [.ref kc, .int (nI bn)])), (kc, .inl (cI, 64, .inl (gA f9_1))), (fw, .inr (2, [.ref ci, .ref tw, .ref stt, .ref chd, .ref spr, .int (nI iw), .int (nI rp), .int (nI aw)])), (ci, .inr (0, [.ref sc, .ref mv, .int (nI r1)])), (sc, .inl (cI, 60, .inl (gA w1))), (sw, .inr (5, [.ref ci2, .ref tu, .int (nI lf), .int (nI rt)])), (ci2, .inr (0, [.ref sc2, .ref mv2, .int (nI r2)])), (sc2, .inl (cI, 60, .inl (gA w2)))]) hD hS hA [0, 7, 8, 1, 2, 3, 4, 5, 6] rfl
    refine va_callv (va_runV (As := []) (rest := []) ⟨hx, hb, hml, hown, hts⟩ (c_X7_expandKey l dC dI cI tS H.size x bf kb to ro fw sw na wo kc ci tw stt chd spr sc mv ci2 tu sc2 mv2 bn iw rp aw lf rt r1 r2 f9_1 w1 w2 hn hk256) (cwV 0 hts gX7_key_X7_expandKey rfl rfl rfl (by decide +kernel) ⟨Nat.le_of_ble_eq_true rfl, Nat.le_of_ble_eq_true rfl⟩) ⟨gPe_blind, va_recv hK hPc (ci := 6) (q0 := 0) rfl rfl, gPe_pre hPc hK hDc (hE.at hS) hFc⟩ rfl rfl hl.1 rfl (lv_room (Nat.le_of_ble_eq_true rfl)) dX7_key_58 ⟨Nat.zero_le _, Nat.zero_le _⟩) hS (fun q _ h => hFc q h) hFc (fun u8 t8 H1 locs ht hvm hw hB hz1 hk1 hS => ?_)
    obtain ⟨w8_2, w9_2⟩ := u8
    try dsimp only at hw hB
    obtain ⟨hP, hD⟩ := gB_join (wr := [(bf, .inr (1, [.ref bc, .int (nI 0)])), (bc, .inl (cI, 64, .inl (gA b0)))]) (w2 := [(bf, .inr (1, [.ref bc, .int (nI 0)])), (bc, .inl (cI, 64, .inl (gA b0))), (x, .inr (6, [.ref bf, .ref kb, .ref to, .ref ro, .ref fw, .ref sw, .ref na, .ref wo])), (kb, .inr (1, [.ref kc, .int (nI bn)])), (kc, .inl (cI, 64, .inl (gA f9_1))), (fw, .inr (2, [.ref ci, .ref tw, .ref stt, .ref chd, .ref spr, .int (nI iw), .int (nI rp), .int (nI aw)])), (ci, .inr (0, [.ref sc, .ref mv, .int (nI (bn / 4 + 6))])), (sc, .inl (cI, 60, .inl (gA w8_2))), (sw, .inr (5, [.ref ci2, .ref tu, .int (nI lf), .int (nI rt)])), (ci2, .inr (0, [.ref sc2, .ref mv2, .int (nI (bn / 4 + 6))])), (sc2, .inl (cI, 60, .inl (gA w9_2)))]) hP hD [0, 7, 8, 1, 2, 3, 4, 5, 6] [9, 10] rfl rfl (by decide) (by decide) hk1 hFc ht hB rfl
    clear hk1 hz1 ht hB hvm hPc hDc hFc
    generalize H1 = H at hP hS ⊢
    obtain ⟨hk1, hk2⟩ := hw
    refine lv_aload_n hx hb dX7_key_61 rfl (lv_at hl 0 rfl) ?_
    refine gv_get (own := RX7) (D := (dC, dI)) (ci := 6) (C := RX7) (T := TX7) (N := 8) (v := .ref fw) hx hb hts (by decide +kernel) hown hK hP 2 rfl rfl 4 (by decide) (hts (.fieldLink RX7 32 "NumeralCipher" "firstWay" "LNumeralCipher$FirstWay;") (by decide +kernel)) rfl rfl dX7_key_62 ?_
    refine va_get (own := RX7) (D := (dC, dI)) (ci := 2) (C := RX2) (T := TX2) (N := 8) (v := .ref ci) hx hb hts (by decide +kernel) hown hK hP 5 rfl rfl 0 (by decide) (hts (.fieldLink RX7 89 "NumeralCipher$FirstWay" "cipher" "LNumeralCipher$BlockCipher;") (by decide +kernel)) (fun x9 h9 => u_same (hts (.sameField "NumeralCipher$FirstWay" "NumeralCipher$Way" "cipher" "LNumeralCipher$BlockCipher;") (by decide +kernel)) x9 h9) rfl dX7_key_65 ?_
    refine gv_getN (own := RX7) (D := (dC, dI)) (ci := 0) (C := RX0) (T := TX0) (N := 3) (v := .int (nI (bn / 4 + 6))) hx hb hts (by decide +kernel) hown hK hP 6 rfl rfl 2 (by decide) (hE.nest (.fieldLinkNest "NumeralCipher" 93 "NumeralCipher$BlockCipher" "rounds" "I" "NumeralCipher") (by decide +kernel)) rfl rfl dX7_key_68 ?_
    exact W.iret (v := (nI (bn / 4 + 6))) hx hb hr (fun t ht hW => ⟨⟨_, (f9_1, w8_2, w9_2), rfl, ⟨rfl, hk9, hk1, hk2⟩, gB_end ht hW (hP.sub [2, 0, 1, 3, 4, 5, 6, 7, 8, 9, 10] rfl) hK (hD.sub [2, 0, 1, 3, 4, 5, 6, 7, 8, 9, 10] (by decide) rfl)⟩, hS.F ht⟩) hS.2.2 dX7_key_71
  refine lv_aload_n hx hb dX7_key_0 rfl (lv_at hl 0 rfl) ?_
  refine gv_get (own := RX7) (D := (dC, dI)) (ci := 6) (C := RX7) (T := TX7) (N := 8) (v := .ref bf) hx hb hts (by decide +kernel) hown hK hP 0 rfl rfl 0 (by decide) (hts (.fieldLink RX7 10 "NumeralCipher" "buffer" "LNumeralCipher$Bytes;") (by decide +kernel)) rfl rfl dX7_key_1 ?_
  refine gv_getN (own := RX7) (D := (dC, dI)) (ci := 1) (C := RX1) (T := TX1) (N := 2) (v := .int (nI bn)) hx hb hts (by decide +kernel) hown hK hP 1 rfl rfl 1 (by decide) (hE.nest (.fieldLinkNest "NumeralCipher" 54 "NumeralCipher$Bytes" "size" "I" "NumeralCipher") (by decide +kernel)) rfl rfl dX7_key_4 ?_
  refine lv_bipush (v := nI 16) hx hb dX7_key_7 (by decide) ?_
  refine gv_icmp_eq (tgt := 46) hx hb dX7_key_9 (by decide) (by omega) (by omega) (fun c_9 => ?_) (fun c_9 => ?_)
  ·
    exact L46   _ _ hP hD hS _ hl
  ·
    refine lv_aload_n hx hb dX7_key_12 rfl (lv_at hl 0 rfl) ?_
    refine gv_get (own := RX7) (D := (dC, dI)) (ci := 6) (C := RX7) (T := TX7) (N := 8) (v := .ref bf) hx hb hts (by decide +kernel) hown hK hP 0 rfl rfl 0 (by decide) (hts (.fieldLink RX7 10 "NumeralCipher" "buffer" "LNumeralCipher$Bytes;") (by decide +kernel)) rfl rfl dX7_key_13 ?_
    refine gv_getN (own := RX7) (D := (dC, dI)) (ci := 1) (C := RX1) (T := TX1) (N := 2) (v := .int (nI bn)) hx hb hts (by decide +kernel) hown hK hP 1 rfl rfl 1 (by decide) (hE.nest (.fieldLinkNest "NumeralCipher" 54 "NumeralCipher$Bytes" "size" "I" "NumeralCipher") (by decide +kernel)) rfl rfl dX7_key_16 ?_
    refine lv_bipush (v := nI 24) hx hb dX7_key_19 (by decide) ?_
    refine gv_icmp_eq (tgt := 46) hx hb dX7_key_21 (by decide) (by omega) (by omega) (fun c_21 => ?_) (fun c_21 => ?_)
    ·
      exact L46   _ _ hP hD hS _ hl
    ·
      refine lv_aload_n hx hb dX7_key_24 rfl (lv_at hl 0 rfl) ?_
      refine gv_get (own := RX7) (D := (dC, dI)) (ci := 6) (C := RX7) (T := TX7) (N := 8) (v := .ref bf) hx hb hts (by decide +kernel) hown hK hP 0 rfl rfl 0 (by decide) (hts (.fieldLink RX7 10 "NumeralCipher" "buffer" "LNumeralCipher$Bytes;") (by decide +kernel)) rfl rfl dX7_key_25 ?_
      refine gv_getN (own := RX7) (D := (dC, dI)) (ci := 1) (C := RX1) (T := TX1) (N := 2) (v := .int (nI bn)) hx hb hts (by decide +kernel) hown hK hP 1 rfl rfl 1 (by decide) (hE.nest (.fieldLinkNest "NumeralCipher" 54 "NumeralCipher$Bytes" "size" "I" "NumeralCipher") (by decide +kernel)) rfl rfl dX7_key_28 ?_
      refine lv_bipush (v := nI 32) hx hb dX7_key_31 (by decide) ?_
      refine gv_icmp_eq (tgt := 46) hx hb dX7_key_33 (by decide) (by omega) (by omega) (fun c_33 => ?_) (fun c_33 => ?_)
      ·
        exact L46   _ _ hP hD hS _ hl
      ·
        exact absurd c_33 (by omega)

set_option maxHeartbeats 4000000 in
set_option maxRecDepth 100000 in
/-- the class, tweak: ok -/
theorem c_X7_tweak_ok (l : Launch) (dC : Nat → ClassId) (dI : Nat → Nat → Nat) (cI : ClassId) (tS : Nat) (sz : Nat) (x : Nat) (bf : Nat) (kb : Nat) (to : Nat) (ro : Nat) (fw : Nat) (sw : Nat) (na : Nat) (wo : Nat) (bc : Nat) (bn : Nat) (tc : Nat) (tn : Nat) (b0 : Nat → Nat) (t0 : Nat → Nat) (hn : bn ≤ 32) : Met l yX7_tweak wsX7_tweak ({ frames := 1, cells := 0, slots := 0, locals := 22 }) (gPe dC dI cI tS [.ref x] [(x, .inr (6, [.ref bf, .ref kb, .ref to, .ref ro, .ref fw, .ref sw, .ref na, .ref wo])), (bf, .inr (1, [.ref bc, .int (nI bn)])), (bc, .inl (cI, 64, .inl (gA b0))), (to, .inr (1, [.ref tc, .int (nI tn)])), (tc, .inl (cI, 64, .inl (gA t0)))] sz) (va_Qi (fun (r : Int32) (u : (Nat → Nat)) => r = (nI bn) ∧ (∀ q, q < 64 → u q = if q < bn then b0 q else 0)) (fun u t => gB dC dI cI (va_A [(x, .inr (6, [.ref bf, .ref kb, .ref to, .ref ro, .ref fw, .ref sw, .ref na, .ref wo])), (bf, .inr (1, [.ref bc, .int (nI bn)])), (bc, .inl (cI, 64, .inl (gA b0))), (to, .inr (1, [.ref tc, .int (nI tn)])), (tc, .inl (cI, 64, .inl (gA t0)))] sz) [(x, .inr (6, [.ref bf, .ref kb, .ref to, .ref ro, .ref fw, .ref sw, .ref na, .ref wo])), (bf, .inr (1, [.ref bc, .int (nI 0)])), (bc, .inl (cI, 64, .inl (gA b0))), (to, .inr (1, [.ref tc, .int (nI bn)])), (tc, .inl (cI, 64, .inl (gA u)))] t) (va_A [(x, .inr (6, [.ref bf, .ref kb, .ref to, .ref ro, .ref fw, .ref sw, .ref na, .ref wo])), (bf, .inr (1, [.ref bc, .int (nI bn)])), (bc, .inl (cI, 64, .inl (gA b0))), (to, .inr (1, [.ref tc, .int (nI tn)])), (tc, .inl (cI, 64, .inl (gA t0)))] sz)) 0 0 (va_A [(x, .inr (6, [.ref bf, .ref kb, .ref to, .ref ro, .ref fw, .ref sw, .ref na, .ref wo])), (bf, .inr (1, [.ref bc, .int (nI bn)])), (bc, .inl (cI, 64, .inl (gA b0))), (to, .inr (1, [.ref tc, .int (nI tn)])), (tc, .inl (cI, 64, .inl (gA t0)))] sz) := by
  refine Met.ofW (cc := cX7_tweak) (maxL := 1) (ret := (some .int)) (by decide) rfl ?_
  intro p e s m args below meth c s₁ B9 hml hv
  obtain ⟨rfl, hsz, ⟨hP, hK, hD0⟩, hE⟩ := hv
  have hx := B9.exec
  have hb := B9.bytes
  have hr := B9.returns
  have hts := atoms_spec (ws := wsX7_tweak) B9.pre
  have hown : s.vm.findClass RX7 = some m.cls := findClass_of_methodNamed B9.named
  have hlocks := B9.notSynchronized
  subst hsz
  have hD := hD0.self (sz := s.heap.size)
  generalize hAe : va_A [(x, .inr (6, [.ref bf, .ref kb, .ref to, .ref ro, .ref fw, .ref sw, .ref na, .ref wo])), (bf, .inr (1, [.ref bc, .int (nI bn)])), (bc, .inl (cI, 64, .inl (gA b0))), (to, .inr (1, [.ref tc, .int (nI tn)])), (tc, .inl (cI, 64, .inl (gA t0)))] s.heap.size = A at hD hE ⊢
  have hA : ∀ q : Nat, s.heap.size ≤ q → A q := fun q h => by rw [← hAe]; exact Or.inr h
  have hS : va_S A s.heap s.heap [] := va_S.rf
  have hl := lv_entry ([.ref x]) (n := 1) (Nat.le_of_ble_eq_true rfl)
  rw [lg_entry_eq]
  generalize (lg_sl ([.ref x]) ++ List.replicate (1 - (lg_sl ([.ref x])).length) Slot.unset).toArray = ls at hl ⊢
  have hl : lv_has ls 1 [(0, .ref x)] := hl
  refine lv_aload_n hx hb dX7_tweak_0 rfl (lv_at hl 0 rfl) ?_
  refine gv_get (own := RX7) (D := (dC, dI)) (ci := 6) (C := RX7) (T := TX7) (N := 8) (v := .ref bf) hx hb hts (by decide +kernel) hown hK hP 0 rfl rfl 0 (by decide) (hts (.fieldLink RX7 10 "NumeralCipher" "buffer" "LNumeralCipher$Bytes;") (by decide +kernel)) rfl rfl dX7_tweak_1 ?_
  refine gv_getN (own := RX7) (D := (dC, dI)) (ci := 1) (C := RX1) (T := TX1) (N := 2) (v := .int (nI bn)) hx hb hts (by decide +kernel) hown hK hP 1 rfl rfl 1 (by decide) (hE.nest (.fieldLinkNest "NumeralCipher" 54 "NumeralCipher$Bytes" "size" "I" "NumeralCipher") (by decide +kernel)) rfl rfl dX7_tweak_4 ?_
  refine lv_bipush (v := nI 32) hx hb dX7_tweak_7 (by decide) ?_
  refine gv_icmp_le (tgt := 22) hx hb dX7_tweak_9 (by decide) (by omega) (by omega) (fun c_9 => ?_) (fun c_9 => ?_)
  ·
    refine lv_aload_n hx hb dX7_tweak_22 rfl (lv_at hl 0 rfl) ?_
    refine gv_get (own := RX7) (D := (dC, dI)) (ci := 6) (C := RX7) (T := TX7) (N := 8) (v := .ref to) hx hb hts (by decide +kernel) hown hK hP 0 rfl rfl 2 (by decide) (hts (.fieldLink RX7 19 "NumeralCipher" "tweakBytes" "LNumeralCipher$Bytes;") (by decide +kernel)) rfl rfl dX7_tweak_23 ?_
    refine lv_aload_n hx hb dX7_tweak_26 rfl (lv_at hl 0 rfl) ?_
    refine gv_get (own := RX7) (D := (dC, dI)) (ci := 6) (C := RX7) (T := TX7) (N := 8) (v := .ref bf) hx hb hts (by decide +kernel) hown hK hP 0 rfl rfl 0 (by decide) (hts (.fieldLink RX7 10 "NumeralCipher" "buffer" "LNumeralCipher$Bytes;") (by decide +kernel)) rfl rfl dX7_tweak_27 ?_
    have hPc := hP.sub (ws' := [(to, .inr (1, [.ref tc, .int (nI tn)])), (tc, .inl (cI, 64, .inl (gA t0))), (bf, .inr (1, [.ref bc, .int (nI bn)])), (bc, .inl (cI, 64, .inl (gA b0)))]) [3, 4, 1, 2] rfl
    have hDc := hD.sub (ws' := [(to, .inr (1, [.ref tc, .int (nI tn)])), (tc, .inl (cI, 64, .inl (gA t0))), (bf, .inr (1, [.ref bc, .int (nI bn)])), (bc, .inl (cI, 64, .inl (gA b0)))]) [3, 4, 1, 2] (by decide) rfl
    have hFc := va_free (wc := [(to, .inr (1, [.ref tc, .int (nI tn)])), (tc, .inl (cI, 64, .inl (gA t0))), (bf, .inr (1, [.ref bc, .int (nI bn)])), (bc, .inl (cI, 64, .inl (gA b0)))]) hD hS hA [3, 4, 1, 2] rfl
    refine va_callv (va_runV (As := [.ref bf]) (rest := []) ⟨hx, hb, hml, hown, hts⟩ (c_X1_takeAll l dC dI cI s.heap.size to tc bf bc tn bn t0 b0 (by omega)) (cwV 1 hts gX7_tweak_X1_takeAll rfl rfl rfl (by decide +kernel) ⟨Nat.le_of_ble_eq_true rfl, Nat.le_of_ble_eq_true rfl⟩) ⟨gPc_blind, va_recv hK hPc (ci := 1) (q0 := 0) rfl rfl, gPc_pre hPc hK hDc⟩ rfl rfl hl.1 rfl (lv_room (Nat.le_of_ble_eq_true rfl)) dX7_tweak_30 ⟨Nat.zero_le _, Nat.zero_le _⟩) hS (fun q _ h => hFc q h) hFc (fun u8 t8 H1 locs ht hvm hw hB hz1 hk1 hS => ?_)
    obtain ⟨f9_1, rfl⟩ : ∃ z, z = u8 := ⟨_, rfl⟩
    try dsimp only at hw hB
    obtain ⟨hP, hD⟩ := gB_join (wr := [(x, .inr (6, [.ref bf, .ref kb, .ref to, .ref ro, .ref fw, .ref sw, .ref na, .ref wo]))]) (w2 := [(x, .inr (6, [.ref bf, .ref kb, .ref to, .ref ro, .ref fw, .ref sw, .ref na, .ref wo])), (to, .inr (1, [.ref tc, .int (nI bn)])), (tc, .inl (cI, 64, .inl (gA f9_1))), (bf, .inr (1, [.ref bc, .int (nI 0)])), (bc, .inl (cI, 64, .inl (gA b0)))]) hP hD [3, 4, 1, 2] [0] rfl rfl (by decide) (by decide) hk1 hFc ht hB rfl
    clear hk1 hz1 ht hB hvm hPc hDc hFc
    generalize H1 = H at hP hS ⊢
    have ht9 := hw
    refine lv_aload_n hx hb dX7_tweak_33 rfl (lv_at hl 0 rfl) ?_
    refine gv_get (own := RX7) (D := (dC, dI)) (ci := 6) (C := RX7) (T := TX7) (N := 8) (v := .ref to) hx hb hts (by decide +kernel) hown hK hP 0 rfl rfl 2 (by decide) (hts (.fieldLink RX7 19 "NumeralCipher" "tweakBytes" "LNumeralCipher$Bytes;") (by decide +kernel)) rfl rfl dX7_tweak_34 ?_
    refine gv_getN (own := RX7) (D := (dC, dI)) (ci := 1) (C := RX1) (T := TX1) (N := 2) (v := .int (nI bn)) hx hb hts (by decide +kernel) hown hK hP 1 rfl rfl 1 (by decide) (hE.nest (.fieldLinkNest "NumeralCipher" 54 "NumeralCipher$Bytes" "size" "I" "NumeralCipher") (by decide +kernel)) rfl rfl dX7_tweak_37 ?_
    exact W.iret (v := (nI bn)) hx hb hr (fun t ht hW => ⟨⟨_, (f9_1), rfl, ⟨rfl, ht9⟩, gB_end ht hW (hP.sub [0, 3, 4, 1, 2] rfl) hK (hD.sub [0, 3, 4, 1, 2] (by decide) rfl)⟩, hS.F ht⟩) hS.2.2 dX7_tweak_40
  ·
    exact absurd c_9 (by omega)

set_option maxHeartbeats 4000000 in
set_option maxRecDepth 100000 in
/-- the class, block: ok -/
theorem c_X7_block_ok (l : Launch) (dC : Nat → ClassId) (dI : Nat → Nat → Nat) (cI : ClassId) (tS : Nat) (sz : Nat) (x : Nat) (bf : Nat) (kb : Nat) (to : Nat) (ro : Nat) (fw : Nat) (sw : Nat) (na : Nat) (wo : Nat) (bc : Nat) (bn : Nat) (ci : Nat) (tw : Nat) (stt : Nat) (chd : Nat) (spr : Nat) (sc : Nat) (mv : Nat) (iw : Nat) (rp : Nat) (aw : Nat) (r : Nat) (b0 : Nat → Nat) (w : Nat → Nat) (v : Nat → Nat) (o0 : Nat → Nat) (Wk : Nat → Nat) (hr1 : 1 ≤ r) (hr2 : r ≤ 14) (hwk : ∀ k, k < 4 * (r + 1) → w k = pkf Wk k) (hW : ∀ j, j < 16 * (r + 1) → Wk j < 256) (hbn : bn = 16) (hb0 : ∀ j, j < 64 → b0 j < 256) : Met l yX7_block wsX7_block ({ frames := 3, cells := 0, slots := 0, locals := 65 }) (gPe dC dI cI tS [.ref x] [(x, .inr (6, [.ref bf, .ref kb, .ref to, .ref ro, .ref fw, .ref sw, .ref na, .ref wo])), (bf, .inr (1, [.ref bc, .int (nI bn)])), (bc, .inl (cI, 64, .inl (gA b0))), (fw, .inr (2, [.ref ci, .ref tw, .ref stt, .ref chd, .ref spr, .int (nI iw), .int (nI rp), .int (nI aw)])), (ci, .inr (0, [.ref sc, .ref mv, .int (nI r)])), (sc, .inl (cI, 60, .inl (gA w))), (mv, .inl (cI, 4, .inl (gA v))), (wo, .inl (cI, 4, .inl (gA o0)))] sz) (va_Qv (fun u : (Nat → Nat) × (Nat → Nat) × (Nat → Nat) => (∀ q, q < 64 → u.1 q = if q < 16 then enc Wk r b0 q else b0 q)) (fun u t => gB dC dI cI (va_A [(x, .inr (6, [.ref bf, .ref kb, .ref to, .ref ro, .ref fw, .ref sw, .ref na, .ref wo])), (bf, .inr (1, [.ref bc, .int (nI bn)])), (bc, .inl (cI, 64, .inl (gA b0))), (fw, .inr (2, [.ref ci, .ref tw, .ref stt, .ref chd, .ref spr, .int (nI iw), .int (nI rp), .int (nI aw)])), (ci, .inr (0, [.ref sc, .ref mv, .int (nI r)])), (sc, .inl (cI, 60, .inl (gA w))), (mv, .inl (cI, 4, .inl (gA v))), (wo, .inl (cI, 4, .inl (gA o0)))] sz) [(x, .inr (6, [.ref bf, .ref kb, .ref to, .ref ro, .ref fw, .ref sw, .ref na, .ref wo])), (bf, .inr (1, [.ref bc, .int (nI bn)])), (bc, .inl (cI, 64, .inl (gA u.1))), (fw, .inr (2, [.ref ci, .ref tw, .ref stt, .ref chd, .ref spr, .int (nI iw), .int (nI rp), .int (nI aw)])), (ci, .inr (0, [.ref sc, .ref mv, .int (nI r)])), (sc, .inl (cI, 60, .inl (gA w))), (mv, .inl (cI, 4, .inl (gA u.2.1))), (wo, .inl (cI, 4, .inl (gA u.2.2)))] t) (va_A [(x, .inr (6, [.ref bf, .ref kb, .ref to, .ref ro, .ref fw, .ref sw, .ref na, .ref wo])), (bf, .inr (1, [.ref bc, .int (nI bn)])), (bc, .inl (cI, 64, .inl (gA b0))), (fw, .inr (2, [.ref ci, .ref tw, .ref stt, .ref chd, .ref spr, .int (nI iw), .int (nI rp), .int (nI aw)])), (ci, .inr (0, [.ref sc, .ref mv, .int (nI r)])), (sc, .inl (cI, 60, .inl (gA w))), (mv, .inl (cI, 4, .inl (gA v))), (wo, .inl (cI, 4, .inl (gA o0)))] sz)) 0 0 (va_A [(x, .inr (6, [.ref bf, .ref kb, .ref to, .ref ro, .ref fw, .ref sw, .ref na, .ref wo])), (bf, .inr (1, [.ref bc, .int (nI bn)])), (bc, .inl (cI, 64, .inl (gA b0))), (fw, .inr (2, [.ref ci, .ref tw, .ref stt, .ref chd, .ref spr, .int (nI iw), .int (nI rp), .int (nI aw)])), (ci, .inr (0, [.ref sc, .ref mv, .int (nI r)])), (sc, .inl (cI, 60, .inl (gA w))), (mv, .inl (cI, 4, .inl (gA v))), (wo, .inl (cI, 4, .inl (gA o0)))] sz) := by
  refine Met.ofW (cc := cX7_block) (maxL := 2) (ret := none) (by decide) rfl ?_
  intro p e s m args below meth c s₁ B9 hml hv
  obtain ⟨rfl, hsz, ⟨hP, hK, hD0⟩, hE⟩ := hv
  have hx := B9.exec
  have hb := B9.bytes
  have hr := B9.returns
  have hts := atoms_spec (ws := wsX7_block) B9.pre
  have hown : s.vm.findClass RX7 = some m.cls := findClass_of_methodNamed B9.named
  have hlocks := B9.notSynchronized
  subst hsz
  have hD := hD0.self (sz := s.heap.size)
  generalize hAe : va_A [(x, .inr (6, [.ref bf, .ref kb, .ref to, .ref ro, .ref fw, .ref sw, .ref na, .ref wo])), (bf, .inr (1, [.ref bc, .int (nI bn)])), (bc, .inl (cI, 64, .inl (gA b0))), (fw, .inr (2, [.ref ci, .ref tw, .ref stt, .ref chd, .ref spr, .int (nI iw), .int (nI rp), .int (nI aw)])), (ci, .inr (0, [.ref sc, .ref mv, .int (nI r)])), (sc, .inl (cI, 60, .inl (gA w))), (mv, .inl (cI, 4, .inl (gA v))), (wo, .inl (cI, 4, .inl (gA o0)))] s.heap.size = A at hD hE ⊢
  have hA : ∀ q : Nat, s.heap.size ≤ q → A q := fun q h => by rw [← hAe]; exact Or.inr h
  have hS : va_S A s.heap s.heap [] := va_S.rf
  have hl := lv_entry ([.ref x]) (n := 2) (Nat.le_of_ble_eq_true rfl)
  rw [lg_entry_eq]
  generalize (lg_sl ([.ref x]) ++ List.replicate (2 - (lg_sl ([.ref x])).length) Slot.unset).toArray = ls at hl ⊢
  have hl : lv_has ls 2 [(0, .ref x)] := hl
  have hE16 := enc_lt hW (fun j hj => hb0 j (by omega))
  refine lv_aload_n hx hb dX7_block_0 rfl (lv_at hl 0 rfl) ?_
  refine gv_get (own := RX7) (D := (dC, dI)) (ci := 6) (C := RX7) (T := TX7) (N := 8) (v := .ref bf) hx hb hts (by decide +kernel) hown hK hP 0 rfl rfl 0 (by decide) (hts (.fieldLink RX7 10 "NumeralCipher" "buffer" "LNumeralCipher$Bytes;") (by decide +kernel)) rfl rfl dX7_block_1 ?_
  refine gv_getN (own := RX7) (D := (dC, dI)) (ci := 1) (C := RX1) (T := TX1) (N := 2) (v := .int (nI bn)) hx hb hts (by decide +kernel) hown hK hP 1 rfl rfl 1 (by decide) (hE.nest (.fieldLinkNest "NumeralCipher" 54 "NumeralCipher$Bytes" "size" "I" "NumeralCipher") (by decide +kernel)) rfl rfl dX7_block_4 ?_
  refine lv_bipush (v := nI 16) hx hb dX7_block_7 (by decide) ?_
  refine gv_icmp_eq (tgt := 22) hx hb dX7_block_9 (by decide) (by omega) (by omega) (fun c_9 => ?_) (fun c_9 => ?_)
  ·
    refine lv_iconst (v := nI 0) hx hb dX7_block_22 (by decide) ?_
    refine lv_istore_n (lv' := [(1, .int (nI 0)), (0, .ref x)]) hx hb dX7_block_23 rfl hl (by decide) rfl (fun ls hl => ?_)
    refine gw_lab (G := fun R args Q => ∀ (n9_24 : Nat) (i : Nat) (g : Nat → Nat), n9_24 = 4 - i → (i ≤ 4) → (∀ q, q < 4 → g q = if q < i then pkf b0 q else o0 q) → ∀ (H : Heap) (locs : List Loc), va_P (dC, dI) vwCl [(x, .inr (6, [.ref bf, .ref kb, .ref to, .ref ro, .ref fw, .ref sw, .ref na, .ref wo])), (bf, .inr (1, [.ref bc, .int (nI bn)])), (bc, .inl (cI, 64, .inl (gA b0))), (fw, .inr (2, [.ref ci, .ref tw, .ref stt, .ref chd, .ref spr, .int (nI iw), .int (nI rp), .int (nI aw)])), (ci, .inr (0, [.ref sc, .ref mv, .int (nI r)])), (sc, .inl (cI, 60, .inl (gA w))), (mv, .inl (cI, 4, .inl (gA v))), (wo, .inl (cI, 4, .inl (gA g)))] H → va_D A [(x, .inr (6, [.ref bf, .ref kb, .ref to, .ref ro, .ref fw, .ref sw, .ref na, .ref wo])), (bf, .inr (1, [.ref bc, .int (nI bn)])), (bc, .inl (cI, 64, .inl (gA b0))), (fw, .inr (2, [.ref ci, .ref tw, .ref stt, .ref chd, .ref spr, .int (nI iw), .int (nI rp), .int (nI aw)])), (ci, .inr (0, [.ref sc, .ref mv, .int (nI r)])), (sc, .inl (cI, 60, .inl (gA w))), (mv, .inl (cI, 4, .inl (gA v))), (wo, .inl (cI, 4, .inl (gA g)))] → va_S A s.heap H locs → ∀ (ls : Array Slot), lv_has ls 2 [(1, .int (nI i)), (0, .ref x)] → W p l e R s m args below meth c H locs 0 0 Q (F0 m 24 ls [])) ?_ (fun L24 => ?_)
    ·
      intro n9_24
      induction n9_24 using Nat.strongRecOn with
      | ind n9_24 ih9_24 =>
        intro i g hmu9_24 hi hg H locs hP hD hS ls hl
        refine lv_iload_n hx hb dX7_block_24 rfl (lv_at hl 0 rfl) ?_
        refine lv_iconst (v := nI 4) hx hb dX7_block_25 (by decide) ?_
        refine gv_icmp_ge (tgt := 49) hx hb dX7_block_26 (by decide) (by omega) (by omega) (fun c_26 => ?_) (fun c_26 => ?_)
        ·
          have e9 : i = 4 := by omega
          rw [e9] at hg
          have hg := fl_e hg
          refine lv_aload_n hx hb dX7_block_49 rfl (lv_at hl 1 rfl) ?_
          refine gv_get (own := RX7) (D := (dC, dI)) (ci := 6) (C := RX7) (T := TX7) (N := 8) (v := .ref fw) hx hb hts (by decide +kernel) hown hK hP 0 rfl rfl 4 (by decide) (hts (.fieldLink RX7 32 "NumeralCipher" "firstWay" "LNumeralCipher$FirstWay;") (by decide +kernel)) rfl rfl dX7_block_50 ?_
          refine va_get (own := RX7) (D := (dC, dI)) (ci := 2) (C := RX2) (T := TX2) (N := 8) (v := .ref ci) hx hb hts (by decide +kernel) hown hK hP 3 rfl rfl 0 (by decide) (hts (.fieldLink RX7 89 "NumeralCipher$FirstWay" "cipher" "LNumeralCipher$BlockCipher;") (by decide +kernel)) (fun x9 h9 => u_same (hts (.sameField "NumeralCipher$FirstWay" "NumeralCipher$Way" "cipher" "LNumeralCipher$BlockCipher;") (by decide +kernel)) x9 h9) rfl dX7_block_53 ?_
          refine lv_aload_n hx hb dX7_block_56 rfl (lv_at hl 1 rfl) ?_
          refine gv_get (own := RX7) (D := (dC, dI)) (ci := 6) (C := RX7) (T := TX7) (N := 8) (v := .ref wo) hx hb hts (by decide +kernel) hown hK hP 0 rfl rfl 7 (by decide) (hts (.fieldLink RX7 50 "NumeralCipher" "words" "[I") (by decide +kernel)) rfl rfl dX7_block_57 ?_
          have hPc := hP.sub (ws' := [(ci, .inr (0, [.ref sc, .ref mv, .int (nI r)])), (sc, .inl (cI, 60, .inl (gA w))), (mv, .inl (cI, 4, .inl (gA v))), (wo, .inl (cI, 4, .inl (gA g)))]) [4, 5, 6, 7] rfl
          have hDc := hD.sub (ws' := [(ci, .inr (0, [.ref sc, .ref mv, .int (nI r)])), (sc, .inl (cI, 60, .inl (gA w))), (mv, .inl (cI, 4, .inl (gA v))), (wo, .inl (cI, 4, .inl (gA g)))]) [4, 5, 6, 7] (by decide) rfl
          have hFc := va_free (wc := [(ci, .inr (0, [.ref sc, .ref mv, .int (nI r)])), (sc, .inl (cI, 60, .inl (gA w))), (mv, .inl (cI, 4, .inl (gA v))), (wo, .inl (cI, 4, .inl (gA g)))]) hD hS hA [4, 5, 6, 7] rfl
          refine va_callv (va_runV (As := [.ref wo]) (rest := []) ⟨hx, hb, hml, hown, hts⟩ (c_X0_encipher l dC dI cI tS H.size ci sc mv wo w v g r Wk b0 hr1 hr2 hwk hW hg (fun j hj => hb0 j (by omega))) (cwV 1 hts gX7_block_X0_encipher rfl rfl rfl (by decide +kernel) ⟨Nat.le_of_ble_eq_true rfl, Nat.le_of_ble_eq_true rfl⟩) ⟨gPe_blind, va_recv hK hPc (ci := 0) (q0 := 0) rfl rfl, gPe_pre hPc hK hDc (hE.at hS) hFc⟩ rfl rfl hl.1 rfl (lv_room (Nat.le_of_ble_eq_true rfl)) dX7_block_60 ⟨Nat.zero_le _, Nat.zero_le _⟩) hS (fun q _ h => hFc q h) hFc (fun u8 t8 H1 locs ht hvm hw hB hz1 hk1 hS => ?_)
          obtain ⟨v9_1, b9_1⟩ := u8
          try dsimp only at hw hB
          obtain ⟨hP, hD⟩ := gB_join (wr := [(x, .inr (6, [.ref bf, .ref kb, .ref to, .ref ro, .ref fw, .ref sw, .ref na, .ref wo])), (bf, .inr (1, [.ref bc, .int (nI bn)])), (bc, .inl (cI, 64, .inl (gA b0))), (fw, .inr (2, [.ref ci, .ref tw, .ref stt, .ref chd, .ref spr, .int (nI iw), .int (nI rp), .int (nI aw)]))]) (w2 := [(x, .inr (6, [.ref bf, .ref kb, .ref to, .ref ro, .ref fw, .ref sw, .ref na, .ref wo])), (bf, .inr (1, [.ref bc, .int (nI bn)])), (bc, .inl (cI, 64, .inl (gA b0))), (fw, .inr (2, [.ref ci, .ref tw, .ref stt, .ref chd, .ref spr, .int (nI iw), .int (nI rp), .int (nI aw)])), (ci, .inr (0, [.ref sc, .ref mv, .int (nI r)])), (sc, .inl (cI, 60, .inl (gA w))), (mv, .inl (cI, 4, .inl (gA v9_1))), (wo, .inl (cI, 4, .inl (gA b9_1)))]) hP hD [4, 5, 6, 7] [0, 1, 2, 3] rfl rfl (by decide) (by decide) hk1 hFc ht hB rfl
          clear hk1 hz1 ht hB hvm hPc hDc hFc
          generalize H1 = H at hP hS ⊢
          have hbe := hw
          refine lv_iconst (v := nI 0) hx hb dX7_block_63 (by decide) ?_
          refine lv_istore_n (lv' := [(1, .int (nI 0)), (0, .ref x)]) hx hb dX7_block_64 rfl hl (by decide) rfl (fun ls hl => ?_)
          refine gw_lab (G := fun R args Q => ∀ (n9_65 : Nat) (i : Nat) (g2 : Nat → Nat), n9_65 = 16 - i → (i ≤ 16) → (∀ q, q < 64 → g2 q = if q < i then enc Wk r b0 q else b0 q) → ∀ (H : Heap) (locs : List Loc), va_P (dC, dI) vwCl [(x, .inr (6, [.ref bf, .ref kb, .ref to, .ref ro, .ref fw, .ref sw, .ref na, .ref wo])), (bf, .inr (1, [.ref bc, .int (nI bn)])), (bc, .inl (cI, 64, .inl (gA g2))), (fw, .inr (2, [.ref ci, .ref tw, .ref stt, .ref chd, .ref spr, .int (nI iw), .int (nI rp), .int (nI aw)])), (ci, .inr (0, [.ref sc, .ref mv, .int (nI r)])), (sc, .inl (cI, 60, .inl (gA w))), (mv, .inl (cI, 4, .inl (gA v9_1))), (wo, .inl (cI, 4, .inl (gA b9_1)))] H → va_D A [(x, .inr (6, [.ref bf, .ref kb, .ref to, .ref ro, .ref fw, .ref sw, .ref na, .ref wo])), (bf, .inr (1, [.ref bc, .int (nI bn)])), (bc, .inl (cI, 64, .inl (gA g2))), (fw, .inr (2, [.ref ci, .ref tw, .ref stt, .ref chd, .ref spr, .int (nI iw), .int (nI rp), .int (nI aw)])), (ci, .inr (0, [.ref sc, .ref mv, .int (nI r)])), (sc, .inl (cI, 60, .inl (gA w))), (mv, .inl (cI, 4, .inl (gA v9_1))), (wo, .inl (cI, 4, .inl (gA b9_1)))] → va_S A s.heap H locs → ∀ (ls : Array Slot), lv_has ls 2 [(1, .int (nI i)), (0, .ref x)] → W p l e R s m args below meth c H locs 0 0 Q (F0 m 65 ls [])) ?_ (fun L65 => ?_)
          ·
            intro n9_65
            induction n9_65 using Nat.strongRecOn with
            | ind n9_65 ih9_65 =>
              intro i g2 hmu9_65 hi hg2 H locs hP hD hS ls hl
              refine lv_iload_n hx hb dX7_block_65 rfl (lv_at hl 0 rfl) ?_
              refine lv_bipush (v := nI 16) hx hb dX7_block_66 (by decide) ?_
              refine gv_icmp_ge (tgt := 108) hx hb dX7_block_68 (by decide) (by omega) (by omega) (fun c_68 => ?_) (fun c_68 => ?_)
              ·
                have e9 : i = 16 := by omega
                rw [e9] at hg2
                exact W.vret hx hb hr (fun t ht hW => ⟨⟨(g2, v9_1, b9_1), rfl, hg2, gB_end ht hW hP hK hD⟩, hS.F ht⟩) hS.2.2 dX7_block_108
              ·
                refine lv_aload_n hx hb dX7_block_71 rfl (lv_at hl 1 rfl) ?_
                refine gv_get (own := RX7) (D := (dC, dI)) (ci := 6) (C := RX7) (T := TX7) (N := 8) (v := .ref bf) hx hb hts (by decide +kernel) hown hK hP 0 rfl rfl 0 (by decide) (hts (.fieldLink RX7 10 "NumeralCipher" "buffer" "LNumeralCipher$Bytes;") (by decide +kernel)) rfl rfl dX7_block_72 ?_
                refine gv_getN (own := RX7) (D := (dC, dI)) (ci := 1) (C := RX1) (T := TX1) (N := 2) (v := .ref bc) hx hb hts (by decide +kernel) hown hK hP 1 rfl rfl 0 (by decide) (hE.nest (.fieldLinkNest "NumeralCipher" 73 "NumeralCipher$Bytes" "cells" "[I" "NumeralCipher") (by decide +kernel)) rfl rfl dX7_block_75 ?_
                refine lv_iload_n hx hb dX7_block_78 rfl (lv_at hl 0 rfl) ?_
                refine lv_aload_n hx hb dX7_block_79 rfl (lv_at hl 1 rfl) ?_
                refine gv_get (own := RX7) (D := (dC, dI)) (ci := 6) (C := RX7) (T := TX7) (N := 8) (v := .ref wo) hx hb hts (by decide +kernel) hown hK hP 0 rfl rfl 7 (by decide) (hts (.fieldLink RX7 50 "NumeralCipher" "words" "[I") (by decide +kernel)) rfl rfl dX7_block_80 ?_
                refine lv_iload_n hx hb dX7_block_83 rfl (lv_at hl 0 rfl) ?_
                refine lv_iconst (v := nI 4) hx hb dX7_block_84 (by decide) ?_
                refine gv_idiv (r := i / 4) hx hb dX7_block_85 (by omega) (by omega) (by omega) rfl ?_
                refine gv_iald hx hb hK hP 7 0 rfl rfl (by omega) (by omega) dX7_block_86 ?_
                refine gv_top (y := nI (pkf (enc Wk r b0) (i / 4))) (congrArg nI (hbe _ (by omega))) ?_
                refine lv_bipush (v := nI 24) hx hb dX7_block_87 (by decide) ?_
                refine lv_bipush (v := nI 8) hx hb dX7_block_89 (by decide) ?_
                refine lv_iload_n hx hb dX7_block_91 rfl (lv_at hl 0 rfl) ?_
                refine lv_iconst (v := nI 4) hx hb dX7_block_92 (by decide) ?_
                refine gv_irem (r := i % 4) hx hb dX7_block_93 (by omega) (by omega) (by omega) rfl ?_
                refine gv_imul (r := 8 * (i % 4)) hx hb dX7_block_94 rfl ?_
                refine gv_isub (r := 24 - (8 * (i % 4))) hx hb dX7_block_95 (by omega) ?_
                refine gv_iushr (r := (pkf (enc Wk r b0) (i / 4)) / (2 ^ (24 - (8 * (i % 4))))) hx hb dX7_block_96 (pkf_lt hE16 (by omega)) (by omega) rfl ?_
                refine lv_sipush (v := nI 255) hx hb dX7_block_97 (by decide) ?_
                refine gv_iand (r := ((pkf (enc Wk r b0) (i / 4)) / (2 ^ (24 - (8 * (i % 4))))) &&& 255) hx hb dX7_block_100 rfl ?_
                refine gv_top (y := nI (enc Wk r b0 i)) (congrArg nI (blk_byte hE16 c_68)) ?_
                refine gv_iast (ws' := [(x, .inr (6, [.ref bf, .ref kb, .ref to, .ref ro, .ref fw, .ref sw, .ref na, .ref wo])), (bf, .inr (1, [.ref bc, .int (nI bn)])), (bc, .inl (cI, 64, .inl (gA (gU g2 i (enc Wk r b0 i))))), (fw, .inr (2, [.ref ci, .ref tw, .ref stt, .ref chd, .ref spr, .int (nI iw), .int (nI rp), .int (nI aw)])), (ci, .inr (0, [.ref sc, .ref mv, .int (nI r)])), (sc, .inl (cI, 60, .inl (gA w))), (mv, .inl (cI, 4, .inl (gA v9_1))), (wo, .inl (cI, 4, .inl (gA b9_1)))]) hx hb hK hP hD hS 2 0 rfl rfl rfl (by omega) (by omega) dX7_block_101 (fun H locs hP hD hS => ?_)
                refine lv_iinc (v := nI (i + 1)) (lv' := [(1, .int (nI (i + 1))), (0, .ref x)]) hx hb dX7_block_102 hl (k := 0) rfl (gz_inc1 _) (by decide) rfl (fun ls hl => ?_)
                refine lv_goto (tgt := 65) hx hb dX7_block_105 (by decide) ?_
                exact ih9_65 _ (by omega) (i + 1) (gU g2 i (enc Wk r b0 i)) rfl (by omega) (fl_s hg2 rfl) _ _ hP hD hS _ hl
          exact L65 _ 0 b0 rfl (by omega) (fl_0 (fun _ _ => rfl)) _ _ hP hD hS _ hl
        ·
          refine lv_aload_n hx hb dX7_block_29 rfl (lv_at hl 1 rfl) ?_
          refine gv_get (own := RX7) (D := (dC, dI)) (ci := 6) (C := RX7) (T := TX7) (N := 8) (v := .ref wo) hx hb hts (by decide +kernel) hown hK hP 0 rfl rfl 7 (by decide) (hts (.fieldLink RX7 50 "NumeralCipher" "words" "[I") (by decide +kernel)) rfl rfl dX7_block_30 ?_
          refine lv_iload_n hx hb dX7_block_33 rfl (lv_at hl 0 rfl) ?_
          refine lv_aload_n hx hb dX7_block_34 rfl (lv_at hl 1 rfl) ?_
          refine gv_get (own := RX7) (D := (dC, dI)) (ci := 6) (C := RX7) (T := TX7) (N := 8) (v := .ref bf) hx hb hts (by decide +kernel) hown hK hP 0 rfl rfl 0 (by decide) (hts (.fieldLink RX7 10 "NumeralCipher" "buffer" "LNumeralCipher$Bytes;") (by decide +kernel)) rfl rfl dX7_block_35 ?_
          refine lv_iload_n hx hb dX7_block_38 rfl (lv_at hl 0 rfl) ?_
          have hPc := hP.sub (ws' := [(bf, .inr (1, [.ref bc, .int (nI bn)])), (bc, .inl (cI, 64, .inl (gA b0)))]) [1, 2] rfl
          have hDc := hD.sub (ws' := [(bf, .inr (1, [.ref bc, .int (nI bn)])), (bc, .inl (cI, 64, .inl (gA b0)))]) [1, 2] (by decide) rfl
          refine gv_callR (W.runV (As := [.int (nI i)]) (rest := [.int (nI i), .ref wo]) ⟨hx, hb, hml, hown, hts⟩ (c_X1_wordAt l dC dI cI H.size bf bc bn b0 i (by omega) hb0) (cwV 1 hts gX7_block_X1_wordAt rfl rfl rfl (by decide +kernel) ⟨Nat.le_of_ble_eq_true rfl, Nat.le_of_ble_eq_true rfl⟩) ⟨gPc_blind, va_recv hK hPc (ci := 1) (q0 := 0) rfl rfl, gPc_pre hPc hK hDc⟩ rfl rfl hl.1 rfl (lv_room (Nat.le_of_ble_eq_true rfl)) dX7_block_39 ⟨Nat.zero_le _, Nat.zero_le _⟩) ?_
          clear hPc hDc
          refine gv_iast (ws' := [(x, .inr (6, [.ref bf, .ref kb, .ref to, .ref ro, .ref fw, .ref sw, .ref na, .ref wo])), (bf, .inr (1, [.ref bc, .int (nI bn)])), (bc, .inl (cI, 64, .inl (gA b0))), (fw, .inr (2, [.ref ci, .ref tw, .ref stt, .ref chd, .ref spr, .int (nI iw), .int (nI rp), .int (nI aw)])), (ci, .inr (0, [.ref sc, .ref mv, .int (nI r)])), (sc, .inl (cI, 60, .inl (gA w))), (mv, .inl (cI, 4, .inl (gA v))), (wo, .inl (cI, 4, .inl (gA (gU g i (pkf b0 i)))))]) hx hb hK hP hD hS 7 0 rfl rfl rfl (by omega) (by omega) dX7_block_42 (fun H locs hP hD hS => ?_)
          refine lv_iinc (v := nI (i + 1)) (lv' := [(1, .int (nI (i + 1))), (0, .ref x)]) hx hb dX7_block_43 hl (k := 0) rfl (gz_inc1 _) (by decide) rfl (fun ls hl => ?_)
          refine lv_goto (tgt := 24) hx hb dX7_block_46 (by decide) ?_
          exact ih9_24 _ (by omega) (i + 1) (gU g i (pkf b0 i)) rfl (by omega) (fl_s hg rfl) _ _ hP hD hS _ hl
    exact L24 _ 0 o0 rfl (by omega) (fl_0 (fun _ _ => rfl)) _ _ hP hD hS _ hl
  ·
    exact absurd c_9 (by omega)

set_option maxHeartbeats 4000000 in
set_option maxRecDepth 100000 in
/-- the class, radix: ok -/
theorem c_X7_radix_ok (l : Launch) (dC : Nat → ClassId) (dI : Nat → Nat → Nat) (cI : ClassId) (tS : Nat) (sz : Nat) (x : Nat) (bf : Nat) (kb : Nat) (to : Nat) (ro : Nat) (fw : Nat) (sw : Nat) (na : Nat) (wo : Nat) (rc : Nat) (n : Nat) (bs : Nat) (r : Nat) (hr1 : 2 ≤ r) (hr2 : r ≤ 65536) : Met l yX7_radix wsX7_radix ({ frames := 0, cells := 0, slots := 0, locals := 0 }) (gPe dC dI cI tS [.ref x, .int (nI r)] [(x, .inr (6, [.ref bf, .ref kb, .ref to, .ref ro, .ref fw, .ref sw, .ref na, .ref wo])), (ro, .inr (4, [.ref rc, .int (nI n), .int (nI bs)]))] sz) (va_Qi (fun (r : Int32) (_u : Unit) => r = (nI n)) (fun _u t => gB dC dI cI (va_A [(x, .inr (6, [.ref bf, .ref kb, .ref to, .ref ro, .ref fw, .ref sw, .ref na, .ref wo])), (ro, .inr (4, [.ref rc, .int (nI n), .int (nI bs)]))] sz) [(x, .inr (6, [.ref bf, .ref kb, .ref to, .ref ro, .ref fw, .ref sw, .ref na, .ref wo])), (ro, .inr (4, [.ref rc, .int (nI 0), .int (nI r)]))] t) (va_A [(x, .inr (6, [.ref bf, .ref kb, .ref to, .ref ro, .ref fw, .ref sw, .ref na, .ref wo])), (ro, .inr (4, [.ref rc, .int (nI n), .int (nI bs)]))] sz)) 0 0 (va_A [(x, .inr (6, [.ref bf, .ref kb, .ref to, .ref ro, .ref fw, .ref sw, .ref na, .ref wo])), (ro, .inr (4, [.ref rc, .int (nI n), .int (nI bs)]))] sz) := by
  refine Met.ofW (cc := cX7_radix) (maxL := 3) (ret := (some .int)) (by decide) rfl ?_
  intro p e s m args below meth c s₁ B9 hml hv
  obtain ⟨rfl, hsz, ⟨hP, hK, hD0⟩, hE⟩ := hv
  have hx := B9.exec
  have hb := B9.bytes
  have hr := B9.returns
  have hts := atoms_spec (ws := wsX7_radix) B9.pre
  have hown : s.vm.findClass RX7 = some m.cls := findClass_of_methodNamed B9.named
  have hlocks := B9.notSynchronized
  subst hsz
  have hD := hD0.self (sz := s.heap.size)
  generalize hAe : va_A [(x, .inr (6, [.ref bf, .ref kb, .ref to, .ref ro, .ref fw, .ref sw, .ref na, .ref wo])), (ro, .inr (4, [.ref rc, .int (nI n), .int (nI bs)]))] s.heap.size = A at hD hE ⊢
  have hA : ∀ q : Nat, s.heap.size ≤ q → A q := fun q h => by rw [← hAe]; exact Or.inr h
  have hS : va_S A s.heap s.heap [] := va_S.rf
  have hl := lv_entry ([.ref x, .int (nI r)]) (n := 3) (Nat.le_of_ble_eq_true rfl)
  rw [lg_entry_eq]
  generalize (lg_sl ([.ref x, .int (nI r)]) ++ List.replicate (3 - (lg_sl ([.ref x, .int (nI r)])).length) Slot.unset).toArray = ls at hl ⊢
  have hl : lv_has ls 3 [(0, .ref x), (1, .int (nI r))] := hl
  refine lv_iload_n hx hb dX7_radix_0 rfl (lv_at hl 1 rfl) ?_
  refine lv_iconst (v := nI 2) hx hb dX7_radix_1 (by decide) ?_
  refine gv_icmp_lt (tgt := 11) hx hb dX7_radix_2 (by decide) (by omega) (by omega) (fun c_2 => ?_) (fun c_2 => ?_)
  ·
    exact absurd c_2 (by omega)
  ·
    refine lv_iload_n hx hb dX7_radix_5 rfl (lv_at hl 1 rfl) ?_
    refine lv_ldc (own := RX7) (v := (65536 : Int32)) hx hb hown (hts (.constant RX7 110 (65536)) (by decide +kernel)) dX7_radix_6 ?_
    refine gv_top (y := nI 65536) (by decide +kernel) ?_
    refine gv_icmp_le (tgt := 21) hx hb dX7_radix_8 (by decide) (by omega) (by omega) (fun c_8 => ?_) (fun c_8 => ?_)
    ·
      refine lv_aload_n hx hb dX7_radix_21 rfl (lv_at hl 0 rfl) ?_
      refine gv_get (own := RX7) (D := (dC, dI)) (ci := 6) (C := RX7) (T := TX7) (N := 8) (v := .ref ro) hx hb hts (by decide +kernel) hown hK hP 0 rfl rfl 3 (by decide) (hts (.fieldLink RX7 25 "NumeralCipher" "row" "LNumeralCipher$Row;") (by decide +kernel)) rfl rfl dX7_radix_22 ?_
      refine gv_getN (own := RX7) (D := (dC, dI)) (ci := 4) (C := RX4) (T := TX4) (N := 3) (v := .int (nI n)) hx hb hts (by decide +kernel) hown hK hP 1 rfl rfl 1 (by decide) (hE.nest (.fieldLinkNest "NumeralCipher" 113 "NumeralCipher$Row" "size" "I" "NumeralCipher") (by decide +kernel)) rfl rfl dX7_radix_25 ?_
      refine lv_istore_n (lv' := [(2, .int (nI n)), (0, .ref x), (1, .int (nI r))]) hx hb dX7_radix_28 rfl hl (by decide) rfl (fun ls hl => ?_)
      refine lv_aload_n hx hb dX7_radix_29 rfl (lv_at hl 1 rfl) ?_
      refine gv_get (own := RX7) (D := (dC, dI)) (ci := 6) (C := RX7) (T := TX7) (N := 8) (v := .ref ro) hx hb hts (by decide +kernel) hown hK hP 0 rfl rfl 3 (by decide) (hts (.fieldLink RX7 25 "NumeralCipher" "row" "LNumeralCipher$Row;") (by decide +kernel)) rfl rfl dX7_radix_30 ?_
      refine lv_iload_n hx hb dX7_radix_33 rfl (lv_at hl 2 rfl) ?_
      refine gv_putN (own := RX7) (D := (dC, dI)) (ci := 4) (C := RX4) (T := TX4) (N := 3) (ws' := [(x, .inr (6, [.ref bf, .ref kb, .ref to, .ref ro, .ref fw, .ref sw, .ref na, .ref wo])), (ro, .inr (4, [.ref rc, .int (nI n), .int (nI r)]))]) hx hb hts (by decide +kernel) tyX4 tyX4_ok nmX4 hown hK hP hD hS 1 rfl rfl 2 (by decide) (hE.nest (.fieldLinkNest "NumeralCipher" 114 "NumeralCipher$Row" "base" "I" "NumeralCipher") (by decide +kernel)) rfl rfl (by decide +kernel) (Nat.le_of_ble_eq_true rfl) rfl dX7_radix_34 (fun H locs hP hD hS => ?_)
      refine lv_aload_n hx hb dX7_radix_37 rfl (lv_at hl 1 rfl) ?_
      refine gv_get (own := RX7) (D := (dC, dI)) (ci := 6) (C := RX7) (T := TX7) (N := 8) (v := .ref ro) hx hb hts (by decide +kernel) hown hK hP 0 rfl rfl 3 (by decide) (hts (.fieldLink RX7 25 "NumeralCipher" "row" "LNumeralCipher$Row;") (by decide +kernel)) rfl rfl dX7_radix_38 ?_
      refine lv_iconst (v := nI 0) hx hb dX7_radix_41 (by decide) ?_
      refine gv_putN (own := RX7) (D := (dC, dI)) (ci := 4) (C := RX4) (T := TX4) (N := 3) (ws' := [(x, .inr (6, [.ref bf, .ref kb, .ref to, .ref ro, .ref fw, .ref sw, .ref na, .ref wo])), (ro, .inr (4, [.ref rc, .int (nI 0), .int (nI r)]))]) hx hb hts (by decide +kernel) tyX4 tyX4_ok nmX4 hown hK hP hD hS 1 rfl rfl 1 (by decide) (hE.nest (.fieldLinkNest "NumeralCipher" 113 "NumeralCipher$Row" "size" "I" "NumeralCipher") (by decide +kernel)) rfl rfl (by decide +kernel) (Nat.le_of_ble_eq_true rfl) rfl dX7_radix_42 (fun H locs hP hD hS => ?_)
      refine lv_iload_n hx hb dX7_radix_45 rfl (lv_at hl 0 rfl) ?_
      exact W.iret (v := (nI n)) hx hb hr (fun t ht hW => ⟨⟨_, (), rfl, rfl, gB_end ht hW hP hK hD⟩, hS.F ht⟩) hS.2.2 dX7_radix_46
    ·
      exact absurd c_8 (by omega)

set_option maxHeartbeats 4000000 in
set_option maxRecDepth 100000 in
/-- the class, numeral: ok -/
theorem c_X7_numeral_ok (l : Launch) (dC : Nat → ClassId) (dI : Nat → Nat → Nat) (cI : ClassId) (tS : Nat) (sz : Nat) (x : Nat) (bf : Nat) (kb : Nat) (to : Nat) (ro : Nat) (fw : Nat) (sw : Nat) (na : Nat) (wo : Nat) (rc : Nat) (n : Nat) (bs : Nat) (v : Nat) (f : Nat → Nat) (hv : v < bs) (hb2 : bs ≤ 65536) (hn : n < 64) : Met l yX7_numeral wsX7_numeral ({ frames := 1, cells := 0, slots := 0, locals := 21 }) (gPe dC dI cI tS [.ref x, .int (nI v)] [(x, .inr (6, [.ref bf, .ref kb, .ref to, .ref ro, .ref fw, .ref sw, .ref na, .ref wo])), (ro, .inr (4, [.ref rc, .int (nI n), .int (nI bs)])), (rc, .inl (cI, 64, .inl (gA f)))] sz) (va_Qi (fun (r : Int32) (_u : Unit) => r = (nI (n + 1))) (fun _u t => gB dC dI cI (va_A [(x, .inr (6, [.ref bf, .ref kb, .ref to, .ref ro, .ref fw, .ref sw, .ref na, .ref wo])), (ro, .inr (4, [.ref rc, .int (nI n), .int (nI bs)])), (rc, .inl (cI, 64, .inl (gA f)))] sz) [(x, .inr (6, [.ref bf, .ref kb, .ref to, .ref ro, .ref fw, .ref sw, .ref na, .ref wo])), (ro, .inr (4, [.ref rc, .int (nI (n + 1)), .int (nI bs)])), (rc, .inl (cI, 64, .inl (gA (gU f n v))))] t) (va_A [(x, .inr (6, [.ref bf, .ref kb, .ref to, .ref ro, .ref fw, .ref sw, .ref na, .ref wo])), (ro, .inr (4, [.ref rc, .int (nI n), .int (nI bs)])), (rc, .inl (cI, 64, .inl (gA f)))] sz)) 0 0 (va_A [(x, .inr (6, [.ref bf, .ref kb, .ref to, .ref ro, .ref fw, .ref sw, .ref na, .ref wo])), (ro, .inr (4, [.ref rc, .int (nI n), .int (nI bs)])), (rc, .inl (cI, 64, .inl (gA f)))] sz) := by
  refine Met.ofW (cc := cX7_numeral) (maxL := 2) (ret := (some .int)) (by decide) rfl ?_
  intro p e s m args below meth c s₁ B9 hml hv
  obtain ⟨rfl, hsz, ⟨hP, hK, hD0⟩, hE⟩ := hv
  have hx := B9.exec
  have hb := B9.bytes
  have hr := B9.returns
  have hts := atoms_spec (ws := wsX7_numeral) B9.pre
  have hown : s.vm.findClass RX7 = some m.cls := findClass_of_methodNamed B9.named
  have hlocks := B9.notSynchronized
  subst hsz
  have hD := hD0.self (sz := s.heap.size)
  generalize hAe : va_A [(x, .inr (6, [.ref bf, .ref kb, .ref to, .ref ro, .ref fw, .ref sw, .ref na, .ref wo])), (ro, .inr (4, [.ref rc, .int (nI n), .int (nI bs)])), (rc, .inl (cI, 64, .inl (gA f)))] s.heap.size = A at hD hE ⊢
  have hA : ∀ q : Nat, s.heap.size ≤ q → A q := fun q h => by rw [← hAe]; exact Or.inr h
  have hS : va_S A s.heap s.heap [] := va_S.rf
  have hl := lv_entry ([.ref x, .int (nI v)]) (n := 2) (Nat.le_of_ble_eq_true rfl)
  rw [lg_entry_eq]
  generalize (lg_sl ([.ref x, .int (nI v)]) ++ List.replicate (2 - (lg_sl ([.ref x, .int (nI v)])).length) Slot.unset).toArray = ls at hl ⊢
  have hl : lv_has ls 2 [(0, .ref x), (1, .int (nI v))] := hl
  refine lv_aload_n hx hb dX7_numeral_0 rfl (lv_at hl 0 rfl) ?_
  refine gv_get (own := RX7) (D := (dC, dI)) (ci := 6) (C := RX7) (T := TX7) (N := 8) (v := .ref ro) hx hb hts (by decide +kernel) hown hK hP 0 rfl rfl 3 (by decide) (hts (.fieldLink RX7 25 "NumeralCipher" "row" "LNumeralCipher$Row;") (by decide +kernel)) rfl rfl dX7_numeral_1 ?_
  refine lv_iload_n hx hb dX7_numeral_4 rfl (lv_at hl 1 rfl) ?_
  have hPc := hP.sub (ws' := [(ro, .inr (4, [.ref rc, .int (nI n), .int (nI bs)]))]) [1] rfl
  have hDc := hD.sub (ws' := [(ro, .inr (4, [.ref rc, .int (nI n), .int (nI bs)]))]) [1] (by decide) rfl
  refine gv_callR (W.runV (As := [.int (nI v)]) (rest := []) ⟨hx, hb, hml, hown, hts⟩ (c_X4_isNumeral l dC dI cI s.heap.size ro rc n bs (nI v) (by omega)) (cwV 1 hts gX7_numeral_X4_isNumeral rfl rfl rfl (by decide +kernel) ⟨Nat.le_of_ble_eq_true rfl, Nat.le_of_ble_eq_true rfl⟩) ⟨gPc_blind, va_recv hK hPc (ci := 4) (q0 := 0) rfl rfl, gPc_pre hPc hK hDc⟩ rfl rfl hl.1 rfl (lv_room (Nat.le_of_ble_eq_true rfl)) dX7_numeral_5 ⟨Nat.zero_le _, Nat.zero_le _⟩) ?_
  clear hPc hDc
  refine gv_top (y := nI 1) (congrArg nI (if_pos (by rw [nI_toInt (by omega)]; omega))) ?_
  refine gv_if_ne (tgt := 21) hx hb dX7_numeral_8 (by decide) (by omega) (fun c_8 => ?_) (fun c_8 => ?_)
  ·
    refine lv_aload_n hx hb dX7_numeral_21 rfl (lv_at hl 0 rfl) ?_
    refine gv_get (own := RX7) (D := (dC, dI)) (ci := 6) (C := RX7) (T := TX7) (N := 8) (v := .ref ro) hx hb hts (by decide +kernel) hown hK hP 0 rfl rfl 3 (by decide) (hts (.fieldLink RX7 25 "NumeralCipher" "row" "LNumeralCipher$Row;") (by decide +kernel)) rfl rfl dX7_numeral_22 ?_
    refine gv_getN (own := RX7) (D := (dC, dI)) (ci := 4) (C := RX4) (T := TX4) (N := 3) (v := .int (nI n)) hx hb hts (by decide +kernel) hown hK hP 1 rfl rfl 1 (by decide) (hE.nest (.fieldLinkNest "NumeralCipher" 113 "NumeralCipher$Row" "size" "I" "NumeralCipher") (by decide +kernel)) rfl rfl dX7_numeral_25 ?_
    refine lv_bipush (v := nI 64) hx hb dX7_numeral_28 (by decide) ?_
    refine gv_icmp_lt (tgt := 43) hx hb dX7_numeral_30 (by decide) (by omega) (by omega) (fun c_30 => ?_) (fun c_30 => ?_)
    ·
      refine lv_aload_n hx hb dX7_numeral_43 rfl (lv_at hl 0 rfl) ?_
      refine gv_get (own := RX7) (D := (dC, dI)) (ci := 6) (C := RX7) (T := TX7) (N := 8) (v := .ref ro) hx hb hts (by decide +kernel) hown hK hP 0 rfl rfl 3 (by decide) (hts (.fieldLink RX7 25 "NumeralCipher" "row" "LNumeralCipher$Row;") (by decide +kernel)) rfl rfl dX7_numeral_44 ?_
      refine gv_getN (own := RX7) (D := (dC, dI)) (ci := 4) (C := RX4) (T := TX4) (N := 3) (v := .ref rc) hx hb hts (by decide +kernel) hown hK hP 1 rfl rfl 0 (by decide) (hE.nest (.fieldLinkNest "NumeralCipher" 125 "NumeralCipher$Row" "cells" "[I" "NumeralCipher") (by decide +kernel)) rfl rfl dX7_numeral_47 ?_
      refine lv_aload_n hx hb dX7_numeral_50 rfl (lv_at hl 0 rfl) ?_
      refine gv_get (own := RX7) (D := (dC, dI)) (ci := 6) (C := RX7) (T := TX7) (N := 8) (v := .ref ro) hx hb hts (by decide +kernel) hown hK hP 0 rfl rfl 3 (by decide) (hts (.fieldLink RX7 25 "NumeralCipher" "row" "LNumeralCipher$Row;") (by decide +kernel)) rfl rfl dX7_numeral_51 ?_
      refine gv_getN (own := RX7) (D := (dC, dI)) (ci := 4) (C := RX4) (T := TX4) (N := 3) (v := .int (nI n)) hx hb hts (by decide +kernel) hown hK hP 1 rfl rfl 1 (by decide) (hE.nest (.fieldLinkNest "NumeralCipher" 113 "NumeralCipher$Row" "size" "I" "NumeralCipher") (by decide +kernel)) rfl rfl dX7_numeral_54 ?_
      refine lv_iload_n hx hb dX7_numeral_57 rfl (lv_at hl 1 rfl) ?_
      refine gv_iast (ws' := [(x, .inr (6, [.ref bf, .ref kb, .ref to, .ref ro, .ref fw, .ref sw, .ref na, .ref wo])), (ro, .inr (4, [.ref rc, .int (nI n), .int (nI bs)])), (rc, .inl (cI, 64, .inl (gA (gU f n v))))]) hx hb hK hP hD hS 2 0 rfl rfl rfl (by omega) (by omega) dX7_numeral_58 (fun H locs hP hD hS => ?_)
      refine lv_aload_n hx hb dX7_numeral_59 rfl (lv_at hl 0 rfl) ?_
      refine gv_get (own := RX7) (D := (dC, dI)) (ci := 6) (C := RX7) (T := TX7) (N := 8) (v := .ref ro) hx hb hts (by decide +kernel) hown hK hP 0 rfl rfl 3 (by decide) (hts (.fieldLink RX7 25 "NumeralCipher" "row" "LNumeralCipher$Row;") (by decide +kernel)) rfl rfl dX7_numeral_60 ?_
      refine lv_dup hx hb dX7_numeral_63 rfl ?_
      refine gv_getN (own := RX7) (D := (dC, dI)) (ci := 4) (C := RX4) (T := TX4) (N := 3) (v := .int (nI n)) hx hb hts (by decide +kernel) hown hK hP 1 rfl rfl 1 (by decide) (hE.nest (.fieldLinkNest "NumeralCipher" 113 "NumeralCipher$Row" "size" "I" "NumeralCipher") (by decide +kernel)) rfl rfl dX7_numeral_64 ?_
      refine lv_iconst (v := nI 1) hx hb dX7_numeral_67 (by decide) ?_
      refine gv_iadd (r := n + 1) hx hb dX7_numeral_68 rfl ?_
      refine gv_putN (own := RX7) (D := (dC, dI)) (ci := 4) (C := RX4) (T := TX4) (N := 3) (ws' := [(x, .inr (6, [.ref bf, .ref kb, .ref to, .ref ro, .ref fw, .ref sw, .ref na, .ref wo])), (ro, .inr (4, [.ref rc, .int (nI (n + 1)), .int (nI bs)])), (rc, .inl (cI, 64, .inl (gA (gU f n v))))]) hx hb hts (by decide +kernel) tyX4 tyX4_ok nmX4 hown hK hP hD hS 1 rfl rfl 1 (by decide) (hE.nest (.fieldLinkNest "NumeralCipher" 113 "NumeralCipher$Row" "size" "I" "NumeralCipher") (by decide +kernel)) rfl rfl (by decide +kernel) (Nat.le_of_ble_eq_true rfl) rfl dX7_numeral_69 (fun H locs hP hD hS => ?_)
      refine lv_aload_n hx hb dX7_numeral_72 rfl (lv_at hl 0 rfl) ?_
      refine gv_get (own := RX7) (D := (dC, dI)) (ci := 6) (C := RX7) (T := TX7) (N := 8) (v := .ref ro) hx hb hts (by decide +kernel) hown hK hP 0 rfl rfl 3 (by decide) (hts (.fieldLink RX7 25 "NumeralCipher" "row" "LNumeralCipher$Row;") (by decide +kernel)) rfl rfl dX7_numeral_73 ?_
      refine gv_getN (own := RX7) (D := (dC, dI)) (ci := 4) (C := RX4) (T := TX4) (N := 3) (v := .int (nI (n + 1))) hx hb hts (by decide +kernel) hown hK hP 1 rfl rfl 1 (by decide) (hE.nest (.fieldLinkNest "NumeralCipher" 113 "NumeralCipher$Row" "size" "I" "NumeralCipher") (by decide +kernel)) rfl rfl dX7_numeral_76 ?_
      exact W.iret (v := (nI (n + 1))) hx hb hr (fun t ht hW => ⟨⟨_, (), rfl, rfl, gB_end ht hW hP hK hD⟩, hS.F ht⟩) hS.2.2 dX7_numeral_79
    ·
      exact absurd c_30 (by omega)
  ·
    exact absurd c_8 (by decide)

set_option maxHeartbeats 4000000 in
set_option maxRecDepth 100000 in
/-- the class, cut: ok -/
theorem c_X7_cut_ok (l : Launch) (dC : Nat → ClassId) (dI : Nat → Nat → Nat) (cI : ClassId) (tS : Nat) (sz : Nat) (x : Nat) (bf : Nat) (kb : Nat) (to : Nat) (ro : Nat) (fw : Nat) (sw : Nat) (na : Nat) (wo : Nat) (rc : Nat) (n : Nat) (bs : Nat) (k : Nat) (hk : k ≤ n) (hn : n ≤ 64) : Met l yX7_cut wsX7_cut ({ frames := 0, cells := 0, slots := 0, locals := 0 }) (gPe dC dI cI tS [.ref x, .int (nI k)] [(x, .inr (6, [.ref bf, .ref kb, .ref to, .ref ro, .ref fw, .ref sw, .ref na, .ref wo])), (ro, .inr (4, [.ref rc, .int (nI n), .int (nI bs)]))] sz) (va_Qv (fun _u : Unit => True) (fun _u t => gB dC dI cI (va_A [(x, .inr (6, [.ref bf, .ref kb, .ref to, .ref ro, .ref fw, .ref sw, .ref na, .ref wo])), (ro, .inr (4, [.ref rc, .int (nI n), .int (nI bs)]))] sz) [(x, .inr (6, [.ref bf, .ref kb, .ref to, .ref ro, .ref fw, .ref sw, .ref na, .ref wo])), (ro, .inr (4, [.ref rc, .int (nI k), .int (nI bs)]))] t) (va_A [(x, .inr (6, [.ref bf, .ref kb, .ref to, .ref ro, .ref fw, .ref sw, .ref na, .ref wo])), (ro, .inr (4, [.ref rc, .int (nI n), .int (nI bs)]))] sz)) 0 0 (va_A [(x, .inr (6, [.ref bf, .ref kb, .ref to, .ref ro, .ref fw, .ref sw, .ref na, .ref wo])), (ro, .inr (4, [.ref rc, .int (nI n), .int (nI bs)]))] sz) := by
  refine Met.ofW (cc := cX7_cut) (maxL := 2) (ret := none) (by decide) rfl ?_
  intro p e s m args below meth c s₁ B9 hml hv
  obtain ⟨rfl, hsz, ⟨hP, hK, hD0⟩, hE⟩ := hv
  have hx := B9.exec
  have hb := B9.bytes
  have hr := B9.returns
  have hts := atoms_spec (ws := wsX7_cut) B9.pre
  have hown : s.vm.findClass RX7 = some m.cls := findClass_of_methodNamed B9.named
  have hlocks := B9.notSynchronized
  subst hsz
  have hD := hD0.self (sz := s.heap.size)
  generalize hAe : va_A [(x, .inr (6, [.ref bf, .ref kb, .ref to, .ref ro, .ref fw, .ref sw, .ref na, .ref wo])), (ro, .inr (4, [.ref rc, .int (nI n), .int (nI bs)]))] s.heap.size = A at hD hE ⊢
  have hA : ∀ q : Nat, s.heap.size ≤ q → A q := fun q h => by rw [← hAe]; exact Or.inr h
  have hS : va_S A s.heap s.heap [] := va_S.rf
  have hl := lv_entry ([.ref x, .int (nI k)]) (n := 2) (Nat.le_of_ble_eq_true rfl)
  rw [lg_entry_eq]
  generalize (lg_sl ([.ref x, .int (nI k)]) ++ List.replicate (2 - (lg_sl ([.ref x, .int (nI k)])).length) Slot.unset).toArray = ls at hl ⊢
  have hl : lv_has ls 2 [(0, .ref x), (1, .int (nI k))] := hl
  refine lv_iload_n hx hb dX7_cut_0 rfl (lv_at hl 1 rfl) ?_
  refine gv_if_lt (tgt := 15) hx hb dX7_cut_1 (by decide) (by omega) ?_
  refine lv_iload_n hx hb dX7_cut_4 rfl (lv_at hl 1 rfl) ?_
  refine lv_aload_n hx hb dX7_cut_5 rfl (lv_at hl 0 rfl) ?_
  refine gv_get (own := RX7) (D := (dC, dI)) (ci := 6) (C := RX7) (T := TX7) (N := 8) (v := .ref ro) hx hb hts (by decide +kernel) hown hK hP 0 rfl rfl 3 (by decide) (hts (.fieldLink RX7 25 "NumeralCipher" "row" "LNumeralCipher$Row;") (by decide +kernel)) rfl rfl dX7_cut_6 ?_
  refine gv_getN (own := RX7) (D := (dC, dI)) (ci := 4) (C := RX4) (T := TX4) (N := 3) (v := .int (nI n)) hx hb hts (by decide +kernel) hown hK hP 1 rfl rfl 1 (by decide) (hE.nest (.fieldLinkNest "NumeralCipher" 113 "NumeralCipher$Row" "size" "I" "NumeralCipher") (by decide +kernel)) rfl rfl dX7_cut_9 ?_
  refine gv_icmp_le (tgt := 25) hx hb dX7_cut_12 (by decide) (by omega) (by omega) (fun c_12 => ?_) (fun c_12 => ?_)
  ·
    refine lv_aload_n hx hb dX7_cut_25 rfl (lv_at hl 0 rfl) ?_
    refine gv_get (own := RX7) (D := (dC, dI)) (ci := 6) (C := RX7) (T := TX7) (N := 8) (v := .ref ro) hx hb hts (by decide +kernel) hown hK hP 0 rfl rfl 3 (by decide) (hts (.fieldLink RX7 25 "NumeralCipher" "row" "LNumeralCipher$Row;") (by decide +kernel)) rfl rfl dX7_cut_26 ?_
    refine lv_iload_n hx hb dX7_cut_29 rfl (lv_at hl 1 rfl) ?_
    refine gv_putN (own := RX7) (D := (dC, dI)) (ci := 4) (C := RX4) (T := TX4) (N := 3) (ws' := [(x, .inr (6, [.ref bf, .ref kb, .ref to, .ref ro, .ref fw, .ref sw, .ref na, .ref wo])), (ro, .inr (4, [.ref rc, .int (nI k), .int (nI bs)]))]) hx hb hts (by decide +kernel) tyX4 tyX4_ok nmX4 hown hK hP hD hS 1 rfl rfl 1 (by decide) (hE.nest (.fieldLinkNest "NumeralCipher" 113 "NumeralCipher$Row" "size" "I" "NumeralCipher") (by decide +kernel)) rfl rfl (by decide +kernel) (Nat.le_of_ble_eq_true rfl) rfl dX7_cut_30 (fun H locs hP hD hS => ?_)
    exact W.vret hx hb hr (fun t ht hW => ⟨⟨(), rfl, trivial, gB_end ht hW hP hK hD⟩, hS.F ht⟩) hS.2.2 dX7_cut_33
  ·
    exact absurd c_12 (by omega)

set_option maxHeartbeats 4000000 in
set_option maxRecDepth 100000 in
/-- the class, set: ok -/
theorem c_X7_set_ok (l : Launch) (dC : Nat → ClassId) (dI : Nat → Nat → Nat) (cI : ClassId) (tS : Nat) (sz : Nat) (x : Nat) (bf : Nat) (kb : Nat) (to : Nat) (ro : Nat) (fw : Nat) (sw : Nat) (na : Nat) (wo : Nat) (rc : Nat) (n : Nat) (bs : Nat) (i : Nat) (v : Nat) (f : Nat → Nat) (hi : i < n) (hn : n ≤ 64) (hv : v < bs) (hb2 : bs ≤ 65536) : Met l yX7_set wsX7_set ({ frames := 1, cells := 0, slots := 0, locals := 21 }) (gPe dC dI cI tS [.ref x, .int (nI i), .int (nI v)] [(x, .inr (6, [.ref bf, .ref kb, .ref to, .ref ro, .ref fw, .ref sw, .ref na, .ref wo])), (ro, .inr (4, [.ref rc, .int (nI n), .int (nI bs)])), (rc, .inl (cI, 64, .inl (gA f)))] sz) (va_Qi (fun (r : Int32) (_u : Unit) => r = (nI (f i))) (fun _u t => gB dC dI cI (va_A [(x, .inr (6, [.ref bf, .ref kb, .ref to, .ref ro, .ref fw, .ref sw, .ref na, .ref wo])), (ro, .inr (4, [.ref rc, .int (nI n), .int (nI bs)])), (rc, .inl (cI, 64, .inl (gA f)))] sz) [(x, .inr (6, [.ref bf, .ref kb, .ref to, .ref ro, .ref fw, .ref sw, .ref na, .ref wo])), (ro, .inr (4, [.ref rc, .int (nI n), .int (nI bs)])), (rc, .inl (cI, 64, .inl (gA (gU f i v))))] t) (va_A [(x, .inr (6, [.ref bf, .ref kb, .ref to, .ref ro, .ref fw, .ref sw, .ref na, .ref wo])), (ro, .inr (4, [.ref rc, .int (nI n), .int (nI bs)])), (rc, .inl (cI, 64, .inl (gA f)))] sz)) 0 0 (va_A [(x, .inr (6, [.ref bf, .ref kb, .ref to, .ref ro, .ref fw, .ref sw, .ref na, .ref wo])), (ro, .inr (4, [.ref rc, .int (nI n), .int (nI bs)])), (rc, .inl (cI, 64, .inl (gA f)))] sz) := by
  refine Met.ofW (cc := cX7_set) (maxL := 4) (ret := (some .int)) (by decide) rfl ?_
  intro p e s m args below meth c s₁ B9 hml hv
  obtain ⟨rfl, hsz, ⟨hP, hK, hD0⟩, hE⟩ := hv
  have hx := B9.exec
  have hb := B9.bytes
  have hr := B9.returns
  have hts := atoms_spec (ws := wsX7_set) B9.pre
  have hown : s.vm.findClass RX7 = some m.cls := findClass_of_methodNamed B9.named
  have hlocks := B9.notSynchronized
  subst hsz
  have hD := hD0.self (sz := s.heap.size)
  generalize hAe : va_A [(x, .inr (6, [.ref bf, .ref kb, .ref to, .ref ro, .ref fw, .ref sw, .ref na, .ref wo])), (ro, .inr (4, [.ref rc, .int (nI n), .int (nI bs)])), (rc, .inl (cI, 64, .inl (gA f)))] s.heap.size = A at hD hE ⊢
  have hA : ∀ q : Nat, s.heap.size ≤ q → A q := fun q h => by rw [← hAe]; exact Or.inr h
  have hS : va_S A s.heap s.heap [] := va_S.rf
  have hl := lv_entry ([.ref x, .int (nI i), .int (nI v)]) (n := 4) (Nat.le_of_ble_eq_true rfl)
  rw [lg_entry_eq]
  generalize (lg_sl ([.ref x, .int (nI i), .int (nI v)]) ++ List.replicate (4 - (lg_sl ([.ref x, .int (nI i), .int (nI v)])).length) Slot.unset).toArray = ls at hl ⊢
  have hl : lv_has ls 4 [(0, .ref x), (1, .int (nI i)), (2, .int (nI v))] := hl
  refine lv_aload_n hx hb dX7_set_0 rfl (lv_at hl 0 rfl) ?_
  refine gv_get (own := RX7) (D := (dC, dI)) (ci := 6) (C := RX7) (T := TX7) (N := 8) (v := .ref ro) hx hb hts (by decide +kernel) hown hK hP 0 rfl rfl 3 (by decide) (hts (.fieldLink RX7 25 "NumeralCipher" "row" "LNumeralCipher$Row;") (by decide +kernel)) rfl rfl dX7_set_1 ?_
  refine lv_iload_n hx hb dX7_set_4 rfl (lv_at hl 1 rfl) ?_
  have hPc := hP.sub (ws' := [(ro, .inr (4, [.ref rc, .int (nI n), .int (nI bs)]))]) [1] rfl
  have hDc := hD.sub (ws' := [(ro, .inr (4, [.ref rc, .int (nI n), .int (nI bs)]))]) [1] (by decide) rfl
  refine gv_callR (W.runV (As := [.int (nI i)]) (rest := []) ⟨hx, hb, hml, hown, hts⟩ (c_X4_has l dC dI cI s.heap.size ro rc n bs (nI i) (by omega)) (cwV 1 hts gX7_set_X4_has rfl rfl rfl (by decide +kernel) ⟨Nat.le_of_ble_eq_true rfl, Nat.le_of_ble_eq_true rfl⟩) ⟨gPc_blind, va_recv hK hPc (ci := 4) (q0 := 0) rfl rfl, gPc_pre hPc hK hDc⟩ rfl rfl hl.1 rfl (lv_room (Nat.le_of_ble_eq_true rfl)) dX7_set_5 ⟨Nat.zero_le _, Nat.zero_le _⟩) ?_
  clear hPc hDc
  refine gv_top (y := nI 1) (congrArg nI (if_pos (by rw [nI_toInt (by omega)]; omega))) ?_
  refine gv_if_ne (tgt := 21) hx hb dX7_set_8 (by decide) (by omega) (fun c_8 => ?_) (fun c_8 => ?_)
  ·
    refine lv_aload_n hx hb dX7_set_21 rfl (lv_at hl 0 rfl) ?_
    refine gv_get (own := RX7) (D := (dC, dI)) (ci := 6) (C := RX7) (T := TX7) (N := 8) (v := .ref ro) hx hb hts (by decide +kernel) hown hK hP 0 rfl rfl 3 (by decide) (hts (.fieldLink RX7 25 "NumeralCipher" "row" "LNumeralCipher$Row;") (by decide +kernel)) rfl rfl dX7_set_22 ?_
    refine lv_iload_n hx hb dX7_set_25 rfl (lv_at hl 2 rfl) ?_
    have hPc := hP.sub (ws' := [(ro, .inr (4, [.ref rc, .int (nI n), .int (nI bs)]))]) [1] rfl
    have hDc := hD.sub (ws' := [(ro, .inr (4, [.ref rc, .int (nI n), .int (nI bs)]))]) [1] (by decide) rfl
    refine gv_callR (W.runV (As := [.int (nI v)]) (rest := []) ⟨hx, hb, hml, hown, hts⟩ (c_X4_isNumeral l dC dI cI s.heap.size ro rc n bs (nI v) (by omega)) (cwV 1 hts gX7_set_X4_isNumeral rfl rfl rfl (by decide +kernel) ⟨Nat.le_of_ble_eq_true rfl, Nat.le_of_ble_eq_true rfl⟩) ⟨gPc_blind, va_recv hK hPc (ci := 4) (q0 := 0) rfl rfl, gPc_pre hPc hK hDc⟩ rfl rfl hl.1 rfl (lv_room (Nat.le_of_ble_eq_true rfl)) dX7_set_26 ⟨Nat.zero_le _, Nat.zero_le _⟩) ?_
    clear hPc hDc
    refine gv_top (y := nI 1) (congrArg nI (if_pos (by rw [nI_toInt (by omega)]; omega))) ?_
    refine gv_if_ne (tgt := 42) hx hb dX7_set_29 (by decide) (by omega) (fun c_29 => ?_) (fun c_29 => ?_)
    ·
      refine lv_aload_n hx hb dX7_set_42 rfl (lv_at hl 0 rfl) ?_
      refine gv_get (own := RX7) (D := (dC, dI)) (ci := 6) (C := RX7) (T := TX7) (N := 8) (v := .ref ro) hx hb hts (by decide +kernel) hown hK hP 0 rfl rfl 3 (by decide) (hts (.fieldLink RX7 25 "NumeralCipher" "row" "LNumeralCipher$Row;") (by decide +kernel)) rfl rfl dX7_set_43 ?_
      refine gv_getN (own := RX7) (D := (dC, dI)) (ci := 4) (C := RX4) (T := TX4) (N := 3) (v := .ref rc) hx hb hts (by decide +kernel) hown hK hP 1 rfl rfl 0 (by decide) (hE.nest (.fieldLinkNest "NumeralCipher" 125 "NumeralCipher$Row" "cells" "[I" "NumeralCipher") (by decide +kernel)) rfl rfl dX7_set_46 ?_
      refine lv_iload_n hx hb dX7_set_49 rfl (lv_at hl 1 rfl) ?_
      refine gv_iald hx hb hK hP 2 0 rfl rfl (by omega) (by omega) dX7_set_50 ?_
      refine lv_istore_n (lv' := [(3, .int (nI (f i))), (0, .ref x), (1, .int (nI i)), (2, .int (nI v))]) hx hb dX7_set_51 rfl hl (by decide) rfl (fun ls hl => ?_)
      refine lv_aload_n hx hb dX7_set_52 rfl (lv_at hl 1 rfl) ?_
      refine gv_get (own := RX7) (D := (dC, dI)) (ci := 6) (C := RX7) (T := TX7) (N := 8) (v := .ref ro) hx hb hts (by decide +kernel) hown hK hP 0 rfl rfl 3 (by decide) (hts (.fieldLink RX7 25 "NumeralCipher" "row" "LNumeralCipher$Row;") (by decide +kernel)) rfl rfl dX7_set_53 ?_
      refine gv_getN (own := RX7) (D := (dC, dI)) (ci := 4) (C := RX4) (T := TX4) (N := 3) (v := .ref rc) hx hb hts (by decide +kernel) hown hK hP 1 rfl rfl 0 (by decide) (hE.nest (.fieldLinkNest "NumeralCipher" 125 "NumeralCipher$Row" "cells" "[I" "NumeralCipher") (by decide +kernel)) rfl rfl dX7_set_56 ?_
      refine lv_iload_n hx hb dX7_set_59 rfl (lv_at hl 2 rfl) ?_
      refine lv_iload_n hx hb dX7_set_60 rfl (lv_at hl 3 rfl) ?_
      refine gv_iast (ws' := [(x, .inr (6, [.ref bf, .ref kb, .ref to, .ref ro, .ref fw, .ref sw, .ref na, .ref wo])), (ro, .inr (4, [.ref rc, .int (nI n), .int (nI bs)])), (rc, .inl (cI, 64, .inl (gA (gU f i v))))]) hx hb hK hP hD hS 2 0 rfl rfl rfl (by omega) (by omega) dX7_set_61 (fun H locs hP hD hS => ?_)
      refine lv_iload_n hx hb dX7_set_62 rfl (lv_at hl 0 rfl) ?_
      exact W.iret (v := (nI (f i))) hx hb hr (fun t ht hW => ⟨⟨_, (), rfl, rfl, gB_end ht hW hP hK hD⟩, hS.F ht⟩) hS.2.2 dX7_set_63
    ·
      exact absurd c_29 (by decide)
  ·
    exact absurd c_8 (by decide)

set_option maxHeartbeats 4000000 in
set_option maxRecDepth 100000 in
/-- the class, at: ok -/
theorem c_X7_at_ok (l : Launch) (dC : Nat → ClassId) (dI : Nat → Nat → Nat) (cI : ClassId) (tS : Nat) (sz : Nat) (x : Nat) (bf : Nat) (kb : Nat) (to : Nat) (ro : Nat) (fw : Nat) (sw : Nat) (na : Nat) (wo : Nat) (rc : Nat) (n : Nat) (bs : Nat) (i : Nat) (f : Nat → Nat) (hi : i < n) (hn : n ≤ 64) : Met l yX7_at wsX7_at ({ frames := 1, cells := 0, slots := 0, locals := 21 }) (gPe dC dI cI tS [.ref x, .int (nI i)] [(x, .inr (6, [.ref bf, .ref kb, .ref to, .ref ro, .ref fw, .ref sw, .ref na, .ref wo])), (ro, .inr (4, [.ref rc, .int (nI n), .int (nI bs)])), (rc, .inl (cI, 64, .inl (gA f)))] sz) (va_Qi (fun (r : Int32) (_u : Unit) => r = (nI (f i))) (fun _u t => gB dC dI cI (va_A [(x, .inr (6, [.ref bf, .ref kb, .ref to, .ref ro, .ref fw, .ref sw, .ref na, .ref wo])), (ro, .inr (4, [.ref rc, .int (nI n), .int (nI bs)])), (rc, .inl (cI, 64, .inl (gA f)))] sz) [(x, .inr (6, [.ref bf, .ref kb, .ref to, .ref ro, .ref fw, .ref sw, .ref na, .ref wo])), (ro, .inr (4, [.ref rc, .int (nI n), .int (nI bs)])), (rc, .inl (cI, 64, .inl (gA f)))] t) (va_A [(x, .inr (6, [.ref bf, .ref kb, .ref to, .ref ro, .ref fw, .ref sw, .ref na, .ref wo])), (ro, .inr (4, [.ref rc, .int (nI n), .int (nI bs)])), (rc, .inl (cI, 64, .inl (gA f)))] sz)) 0 0 (va_A [(x, .inr (6, [.ref bf, .ref kb, .ref to, .ref ro, .ref fw, .ref sw, .ref na, .ref wo])), (ro, .inr (4, [.ref rc, .int (nI n), .int (nI bs)])), (rc, .inl (cI, 64, .inl (gA f)))] sz) := by
  refine Met.ofW (cc := cX7_at) (maxL := 2) (ret := (some .int)) (by decide) rfl ?_
  intro p e s m args below meth c s₁ B9 hml hv
  obtain ⟨rfl, hsz, ⟨hP, hK, hD0⟩, hE⟩ := hv
  have hx := B9.exec
  have hb := B9.bytes
  have hr := B9.returns
  have hts := atoms_spec (ws := wsX7_at) B9.pre
  have hown : s.vm.findClass RX7 = some m.cls := findClass_of_methodNamed B9.named
  have hlocks := B9.notSynchronized
  subst hsz
  have hD := hD0.self (sz := s.heap.size)
  generalize hAe : va_A [(x, .inr (6, [.ref bf, .ref kb, .ref to, .ref ro, .ref fw, .ref sw, .ref na, .ref wo])), (ro, .inr (4, [.ref rc, .int (nI n), .int (nI bs)])), (rc, .inl (cI, 64, .inl (gA f)))] s.heap.size = A at hD hE ⊢
  have hA : ∀ q : Nat, s.heap.size ≤ q → A q := fun q h => by rw [← hAe]; exact Or.inr h
  have hS : va_S A s.heap s.heap [] := va_S.rf
  have hl := lv_entry ([.ref x, .int (nI i)]) (n := 2) (Nat.le_of_ble_eq_true rfl)
  rw [lg_entry_eq]
  generalize (lg_sl ([.ref x, .int (nI i)]) ++ List.replicate (2 - (lg_sl ([.ref x, .int (nI i)])).length) Slot.unset).toArray = ls at hl ⊢
  have hl : lv_has ls 2 [(0, .ref x), (1, .int (nI i))] := hl
  refine lv_aload_n hx hb dX7_at_0 rfl (lv_at hl 0 rfl) ?_
  refine gv_get (own := RX7) (D := (dC, dI)) (ci := 6) (C := RX7) (T := TX7) (N := 8) (v := .ref ro) hx hb hts (by decide +kernel) hown hK hP 0 rfl rfl 3 (by decide) (hts (.fieldLink RX7 25 "NumeralCipher" "row" "LNumeralCipher$Row;") (by decide +kernel)) rfl rfl dX7_at_1 ?_
  refine lv_iload_n hx hb dX7_at_4 rfl (lv_at hl 1 rfl) ?_
  have hPc := hP.sub (ws' := [(ro, .inr (4, [.ref rc, .int (nI n), .int (nI bs)]))]) [1] rfl
  have hDc := hD.sub (ws' := [(ro, .inr (4, [.ref rc, .int (nI n), .int (nI bs)]))]) [1] (by decide) rfl
  refine gv_callR (W.runV (As := [.int (nI i)]) (rest := []) ⟨hx, hb, hml, hown, hts⟩ (c_X4_has l dC dI cI s.heap.size ro rc n bs (nI i) (by omega)) (cwV 1 hts gX7_at_X4_has rfl rfl rfl (by decide +kernel) ⟨Nat.le_of_ble_eq_true rfl, Nat.le_of_ble_eq_true rfl⟩) ⟨gPc_blind, va_recv hK hPc (ci := 4) (q0 := 0) rfl rfl, gPc_pre hPc hK hDc⟩ rfl rfl hl.1 rfl (lv_room (Nat.le_of_ble_eq_true rfl)) dX7_at_5 ⟨Nat.zero_le _, Nat.zero_le _⟩) ?_
  clear hPc hDc
  refine gv_top (y := nI 1) (congrArg nI (if_pos (by rw [nI_toInt (by omega)]; omega))) ?_
  refine gv_if_ne (tgt := 21) hx hb dX7_at_8 (by decide) (by omega) (fun c_8 => ?_) (fun c_8 => ?_)
  ·
    refine lv_aload_n hx hb dX7_at_21 rfl (lv_at hl 0 rfl) ?_
    refine gv_get (own := RX7) (D := (dC, dI)) (ci := 6) (C := RX7) (T := TX7) (N := 8) (v := .ref ro) hx hb hts (by decide +kernel) hown hK hP 0 rfl rfl 3 (by decide) (hts (.fieldLink RX7 25 "NumeralCipher" "row" "LNumeralCipher$Row;") (by decide +kernel)) rfl rfl dX7_at_22 ?_
    refine gv_getN (own := RX7) (D := (dC, dI)) (ci := 4) (C := RX4) (T := TX4) (N := 3) (v := .ref rc) hx hb hts (by decide +kernel) hown hK hP 1 rfl rfl 0 (by decide) (hE.nest (.fieldLinkNest "NumeralCipher" 125 "NumeralCipher$Row" "cells" "[I" "NumeralCipher") (by decide +kernel)) rfl rfl dX7_at_25 ?_
    refine lv_iload_n hx hb dX7_at_28 rfl (lv_at hl 1 rfl) ?_
    refine gv_iald hx hb hK hP 2 0 rfl rfl (by omega) (by omega) dX7_at_29 ?_
    exact W.iret (v := (nI (f i))) hx hb hr (fun t ht hW => ⟨⟨_, (), rfl, rfl, gB_end ht hW hP hK hD⟩, hS.F ht⟩) hS.2.2 dX7_at_30
  ·
    exact absurd c_8 (by decide)

set_option maxHeartbeats 4000000 in
set_option maxRecDepth 100000 in
/-- the class, can: 0 -/
theorem c_X7_can_0 (l : Launch) (dC : Nat → ClassId) (dI : Nat → Nat → Nat) (cI : ClassId) (tS : Nat) (sz : Nat) (x : Nat) (bf : Nat) (kb : Nat) (to : Nat) (ro : Nat) (fw : Nat) (sw : Nat) (na : Nat) (wo : Nat) (rc : Nat) (tc : Nat) (nc : Nat) (n : Nat) (bs : Nat) (tn : Nat) (k0 : Nat) (ci : Nat) (tw : Nat) (stt : Nat) (chd : Nat) (spr : Nat) (iw : Nat) (rp : Nat) (aw : Nat) (f0 : Nat → Nat) (hn : n ≤ 64) (hb1 : 2 ≤ bs) (hb2 : bs ≤ 65536) (htn : tn ≤ 64) : Met l yX7_can wsX7_can ({ frames := 2, cells := 0, slots := 0, locals := 44 }) (gPe dC dI cI tS [.ref x, .int (nI 0)] [(x, .inr (6, [.ref bf, .ref kb, .ref to, .ref ro, .ref fw, .ref sw, .ref na, .ref wo])), (ro, .inr (4, [.ref rc, .int (nI n), .int (nI bs)])), (to, .inr (1, [.ref tc, .int (nI tn)])), (fw, .inr (2, [.ref ci, .ref tw, .ref stt, .ref chd, .ref spr, .int (nI iw), .int (nI rp), .int (nI aw)])), (na, .inr (3, [.ref nc, .int (nI k0)])), (nc, .inl (cI, 17, .inl (gA f0)))] sz) (va_Qi (fun (r : Int32) (u : Nat × (Nat → Nat)) => r = (nI (if 2 ≤ n ∧ 1000000 ≤ bs ^ n then 1 else 0))) (fun u t => gB dC dI cI (va_A [(x, .inr (6, [.ref bf, .ref kb, .ref to, .ref ro, .ref fw, .ref sw, .ref na, .ref wo])), (ro, .inr (4, [.ref rc, .int (nI n), .int (nI bs)])), (to, .inr (1, [.ref tc, .int (nI tn)])), (fw, .inr (2, [.ref ci, .ref tw, .ref stt, .ref chd, .ref spr, .int (nI iw), .int (nI rp), .int (nI aw)])), (na, .inr (3, [.ref nc, .int (nI k0)])), (nc, .inl (cI, 17, .inl (gA f0)))] sz) [(x, .inr (6, [.ref bf, .ref kb, .ref to, .ref ro, .ref fw, .ref sw, .ref na, .ref wo])), (ro, .inr (4, [.ref rc, .int (nI n), .int (nI bs)])), (to, .inr (1, [.ref tc, .int (nI tn)])), (fw, .inr (2, [.ref ci, .ref tw, .ref stt, .ref chd, .ref spr, .int (nI iw), .int (nI rp), .int (nI aw)])), (na, .inr (3, [.ref nc, .int (nI u.1)])), (nc, .inl (cI, 17, .inl (gA u.2)))] t) (va_A [(x, .inr (6, [.ref bf, .ref kb, .ref to, .ref ro, .ref fw, .ref sw, .ref na, .ref wo])), (ro, .inr (4, [.ref rc, .int (nI n), .int (nI bs)])), (to, .inr (1, [.ref tc, .int (nI tn)])), (fw, .inr (2, [.ref ci, .ref tw, .ref stt, .ref chd, .ref spr, .int (nI iw), .int (nI rp), .int (nI aw)])), (na, .inr (3, [.ref nc, .int (nI k0)])), (nc, .inl (cI, 17, .inl (gA f0)))] sz)) 0 0 (va_A [(x, .inr (6, [.ref bf, .ref kb, .ref to, .ref ro, .ref fw, .ref sw, .ref na, .ref wo])), (ro, .inr (4, [.ref rc, .int (nI n), .int (nI bs)])), (to, .inr (1, [.ref tc, .int (nI tn)])), (fw, .inr (2, [.ref ci, .ref tw, .ref stt, .ref chd, .ref spr, .int (nI iw), .int (nI rp), .int (nI aw)])), (na, .inr (3, [.ref nc, .int (nI k0)])), (nc, .inl (cI, 17, .inl (gA f0)))] sz) := by
  refine Met.ofW (cc := cX7_can) (maxL := 2) (ret := (some .boolean)) (by decide) rfl ?_
  intro p e s m args below meth c s₁ B9 hml hv
  obtain ⟨rfl, hsz, ⟨hP, hK, hD0⟩, hE⟩ := hv
  have hx := B9.exec
  have hb := B9.bytes
  have hr := B9.returns
  have hts := atoms_spec (ws := wsX7_can) B9.pre
  have hown : s.vm.findClass RX7 = some m.cls := findClass_of_methodNamed B9.named
  have hlocks := B9.notSynchronized
  subst hsz
  have hD := hD0.self (sz := s.heap.size)
  generalize hAe : va_A [(x, .inr (6, [.ref bf, .ref kb, .ref to, .ref ro, .ref fw, .ref sw, .ref na, .ref wo])), (ro, .inr (4, [.ref rc, .int (nI n), .int (nI bs)])), (to, .inr (1, [.ref tc, .int (nI tn)])), (fw, .inr (2, [.ref ci, .ref tw, .ref stt, .ref chd, .ref spr, .int (nI iw), .int (nI rp), .int (nI aw)])), (na, .inr (3, [.ref nc, .int (nI k0)])), (nc, .inl (cI, 17, .inl (gA f0)))] s.heap.size = A at hD hE ⊢
  have hA : ∀ q : Nat, s.heap.size ≤ q → A q := fun q h => by rw [← hAe]; exact Or.inr h
  have hS : va_S A s.heap s.heap [] := va_S.rf
  have hl := lv_entry ([.ref x, .int (nI 0)]) (n := 2) (Nat.le_of_ble_eq_true rfl)
  rw [lg_entry_eq]
  generalize (lg_sl ([.ref x, .int (nI 0)]) ++ List.replicate (2 - (lg_sl ([.ref x, .int (nI 0)])).length) Slot.unset).toArray = ls at hl ⊢
  have hl : lv_has ls 2 [(0, .ref x), (1, .int (nI 0))] := hl
  refine lv_iload_n hx hb dX7_can_0 rfl (lv_at hl 1 rfl) ?_
  refine gv_if_eq (tgt := 19) hx hb dX7_can_1 (by decide) (by omega) (fun c_1 => ?_) (fun c_1 => ?_)
  ·
    refine lv_aload_n hx hb dX7_can_19 rfl (lv_at hl 0 rfl) ?_
    refine lv_iload_n hx hb dX7_can_20 rfl (lv_at hl 1 rfl) ?_
    have hPc := hP.sub (ws' := [(x, .inr (6, [.ref bf, .ref kb, .ref to, .ref ro, .ref fw, .ref sw, .ref na, .ref wo])), (ro, .inr (4, [.ref rc, .int (nI n), .int (nI bs)])), (to, .inr (1, [.ref tc, .int (nI tn)])), (fw, .inr (2, [.ref ci, .ref tw, .ref stt, .ref chd, .ref spr, .int (nI iw), .int (nI rp), .int (nI aw)])), (na, .inr (3, [.ref nc, .int (nI k0)])), (nc, .inl (cI, 17, .inl (gA f0)))]) [0, 1, 2, 3, 4, 5] rfl
    have hDc := hD.sub (ws' := [(x, .inr (6, [.ref bf, .ref kb, .ref to, .ref ro, .ref fw, .ref sw, .ref na, .ref wo])), (ro, .inr (4, [.ref rc, .int (nI n), .int (nI bs)])), (to, .inr (1, [.ref tc, .int (nI tn)])), (fw, .inr (2, [.ref ci, .ref tw, .ref stt, .ref chd, .ref spr, .int (nI iw), .int (nI rp), .int (nI aw)])), (na, .inr (3, [.ref nc, .int (nI k0)])), (nc, .inl (cI, 17, .inl (gA f0)))]) [0, 1, 2, 3, 4, 5] (by decide) rfl
    have hFc := va_free (wc := [(x, .inr (6, [.ref bf, .ref kb, .ref to, .ref ro, .ref fw, .ref sw, .ref na, .ref wo])), (ro, .inr (4, [.ref rc, .int (nI n), .int (nI bs)])), (to, .inr (1, [.ref tc, .int (nI tn)])), (fw, .inr (2, [.ref ci, .ref tw, .ref stt, .ref chd, .ref spr, .int (nI iw), .int (nI rp), .int (nI aw)])), (na, .inr (3, [.ref nc, .int (nI k0)])), (nc, .inl (cI, 17, .inl (gA f0)))]) hD hS hA [0, 1, 2, 3, 4, 5] rfl
    refine va_calli (va_runV (As := [.int (nI 0)]) (rest := []) ⟨hx, hb, hml, hown, hts⟩ (c_X7_isTurnable_0 l dC dI cI tS s.heap.size x bf kb to ro fw sw na wo rc tc nc n bs tn k0 ci tw stt chd spr iw rp aw f0 (by omega) (by omega) (by omega) (by omega)) (cwV 1 hts gX7_can_X7_isTurnable rfl rfl rfl (by decide +kernel) ⟨Nat.le_of_ble_eq_true rfl, Nat.le_of_ble_eq_true rfl⟩) ⟨gPe_blind, va_recv hK hPc (ci := 6) (q0 := 0) rfl rfl, gPe_pre hPc hK hDc (hE.at hS) hFc⟩ rfl rfl hl.1 rfl (lv_room (Nat.le_of_ble_eq_true rfl)) dX7_can_21 ⟨Nat.zero_le _, Nat.zero_le _⟩) hS (fun q _ h => hFc q h) hFc (fun r9 u8 t8 H1 locs ht hvm hw hB hz1 hk1 hS => ?_)
    obtain ⟨m9_1, f9_1⟩ := u8
    try dsimp only at hw hB
    obtain ⟨hP, hD⟩ := gB_join (wr := []) (w2 := [(x, .inr (6, [.ref bf, .ref kb, .ref to, .ref ro, .ref fw, .ref sw, .ref na, .ref wo])), (ro, .inr (4, [.ref rc, .int (nI n), .int (nI bs)])), (to, .inr (1, [.ref tc, .int (nI tn)])), (fw, .inr (2, [.ref ci, .ref tw, .ref stt, .ref chd, .ref spr, .int (nI iw), .int (nI rp), .int (nI aw)])), (na, .inr (3, [.ref nc, .int (nI m9_1)])), (nc, .inl (cI, 17, .inl (gA f9_1)))]) hP hD [0, 1, 2, 3, 4, 5] [] rfl rfl (by decide) (by decide) hk1 hFc ht hB rfl
    clear hk1 hz1 ht hB hvm hPc hDc hFc
    generalize H1 = H at hP hS ⊢
    subst hw
    exact W.zret (v := (nI (if 2 ≤ n ∧ 1000000 ≤ bs ^ n then 1 else 0))) hx hb hr (by split <;> rfl) (fun t ht hW => ⟨⟨_, (m9_1, f9_1), rfl, rfl, gB_end ht hW hP hK hD⟩, hS.F ht⟩) hS.2.2 dX7_can_24
  ·
    exact absurd c_1 (by decide)

set_option maxHeartbeats 4000000 in
set_option maxRecDepth 100000 in
/-- the class, turn: 0 -/
theorem c_X7_turn_0 (l : Launch) (dC : Nat → ClassId) (dI : Nat → Nat → Nat) (cI : ClassId) (tS : Nat) (sz : Nat) (x : Nat) (bf : Nat) (kb : Nat) (to : Nat) (ro : Nat) (fw : Nat) (sw : Nat) (na : Nat) (wo : Nat) (rc : Nat) (tc : Nat) (nc : Nat) (ci : Nat) (tw : Nat) (stt : Nat) (chd : Nat) (spr : Nat) (sc : Nat) (mv : Nat) (iw : Nat) (rp : Nat) (aw : Nat) (r : Nat) (n : Nat) (bs : Nat) (tn : Nat) (k0 : Nat) (bk : Nat) (f : Nat → Nat) (tb : Nat → Nat) (tw0 : Nat → Nat) (st0 : Nat → Nat) (c0 : Nat → Nat) (p0 : Nat → Nat) (w : Nat → Nat) (v : Nat → Nat) (f0 : Nat → Nat) (Wk : Nat → Nat) (hr1 : 1 ≤ r) (hr2 : r ≤ 14) (hwk : ∀ k, k < 4 * (r + 1) → w k = pkf Wk k) (hW : ∀ j, j < 16 * (r + 1) → Wk j < 256) (hn2 : n ≤ 64) (hb1 : 2 ≤ bs) (hb2 : bs ≤ 65536) (htn : tn ≤ 32) (ht0 : ∀ j, tn ≤ j → j < 64 → tb j = 0) (htb : ∀ j, j < 64 → tb j < 256) (hbk : bk ≤ 1) (hd0 : ∀ q, q < n → f q < bs) (hyes : 2 ≤ n ∧ 1000000 ≤ bs ^ n) : Met l yX7_turn wsX7_turn ({ frames := 6, cells := 0, slots := 0, locals := 147 }) (gPe dC dI cI tS [.ref x, .int (nI 0), .int (nI bk)] [(x, .inr (6, [.ref bf, .ref kb, .ref to, .ref ro, .ref fw, .ref sw, .ref na, .ref wo])), (ro, .inr (4, [.ref rc, .int (nI n), .int (nI bs)])), (rc, .inl (cI, 64, .inl (gA f))), (to, .inr (1, [.ref tc, .int (nI tn)])), (tc, .inl (cI, 64, .inl (gA tb))), (fw, .inr (2, [.ref ci, .ref tw, .ref stt, .ref chd, .ref spr, .int (nI iw), .int (nI rp), .int (nI aw)])), (tw, .inl (cI, 8, .inl (gA tw0))), (stt, .inl (cI, 4, .inl (gA st0))), (chd, .inl (cI, 4, .inl (gA c0))), (spr, .inl (cI, 4, .inl (gA p0))), (ci, .inr (0, [.ref sc, .ref mv, .int (nI r)])), (sc, .inl (cI, 60, .inl (gA w))), (mv, .inl (cI, 4, .inl (gA v))), (na, .inr (3, [.ref nc, .int (nI k0)])), (nc, .inl (cI, 17, .inl (gA f0)))] sz) (va_Qv (fun u : (Nat → Nat) × (Nat → Nat) × (Nat → Nat) × (Nat → Nat) × (Nat → Nat) × Nat × (Nat → Nat) => True) (fun u t => gB dC dI cI (va_A [(x, .inr (6, [.ref bf, .ref kb, .ref to, .ref ro, .ref fw, .ref sw, .ref na, .ref wo])), (ro, .inr (4, [.ref rc, .int (nI n), .int (nI bs)])), (rc, .inl (cI, 64, .inl (gA f))), (to, .inr (1, [.ref tc, .int (nI tn)])), (tc, .inl (cI, 64, .inl (gA tb))), (fw, .inr (2, [.ref ci, .ref tw, .ref stt, .ref chd, .ref spr, .int (nI iw), .int (nI rp), .int (nI aw)])), (tw, .inl (cI, 8, .inl (gA tw0))), (stt, .inl (cI, 4, .inl (gA st0))), (chd, .inl (cI, 4, .inl (gA c0))), (spr, .inl (cI, 4, .inl (gA p0))), (ci, .inr (0, [.ref sc, .ref mv, .int (nI r)])), (sc, .inl (cI, 60, .inl (gA w))), (mv, .inl (cI, 4, .inl (gA v))), (na, .inr (3, [.ref nc, .int (nI k0)])), (nc, .inl (cI, 17, .inl (gA f0)))] sz) [(x, .inr (6, [.ref bf, .ref kb, .ref to, .ref ro, .ref fw, .ref sw, .ref na, .ref wo])), (ro, .inr (4, [.ref rc, .int (nI n), .int (nI bs)])), (rc, .inl (cI, 64, .inl (gA (fei (FF1 Wk r bs n tn tb) 0 (n / 2) (n - n / 2) bk bs 10 f 10)))), (to, .inr (1, [.ref tc, .int (nI tn)])), (tc, .inl (cI, 64, .inl (gA tb))), (fw, .inr (2, [.ref ci, .ref tw, .ref stt, .ref chd, .ref spr, .int (nI (ff1iw bs n tn)), .int (nI (ff1rp bs n tn)), .int (nI (ff1aw bs n))])), (tw, .inl (cI, 8, .inl (gA u.1))), (stt, .inl (cI, 4, .inl (gA u.2.1))), (chd, .inl (cI, 4, .inl (gA u.2.2.1))), (spr, .inl (cI, 4, .inl (gA u.2.2.2.1))), (ci, .inr (0, [.ref sc, .ref mv, .int (nI r)])), (sc, .inl (cI, 60, .inl (gA w))), (mv, .inl (cI, 4, .inl (gA u.2.2.2.2.1))), (na, .inr (3, [.ref nc, .int (nI u.2.2.2.2.2.1)])), (nc, .inl (cI, 17, .inl (gA u.2.2.2.2.2.2)))] t) (va_A [(x, .inr (6, [.ref bf, .ref kb, .ref to, .ref ro, .ref fw, .ref sw, .ref na, .ref wo])), (ro, .inr (4, [.ref rc, .int (nI n), .int (nI bs)])), (rc, .inl (cI, 64, .inl (gA f))), (to, .inr (1, [.ref tc, .int (nI tn)])), (tc, .inl (cI, 64, .inl (gA tb))), (fw, .inr (2, [.ref ci, .ref tw, .ref stt, .ref chd, .ref spr, .int (nI iw), .int (nI rp), .int (nI aw)])), (tw, .inl (cI, 8, .inl (gA tw0))), (stt, .inl (cI, 4, .inl (gA st0))), (chd, .inl (cI, 4, .inl (gA c0))), (spr, .inl (cI, 4, .inl (gA p0))), (ci, .inr (0, [.ref sc, .ref mv, .int (nI r)])), (sc, .inl (cI, 60, .inl (gA w))), (mv, .inl (cI, 4, .inl (gA v))), (na, .inr (3, [.ref nc, .int (nI k0)])), (nc, .inl (cI, 17, .inl (gA f0)))] sz)) 0 0 (va_A [(x, .inr (6, [.ref bf, .ref kb, .ref to, .ref ro, .ref fw, .ref sw, .ref na, .ref wo])), (ro, .inr (4, [.ref rc, .int (nI n), .int (nI bs)])), (rc, .inl (cI, 64, .inl (gA f))), (to, .inr (1, [.ref tc, .int (nI tn)])), (tc, .inl (cI, 64, .inl (gA tb))), (fw, .inr (2, [.ref ci, .ref tw, .ref stt, .ref chd, .ref spr, .int (nI iw), .int (nI rp), .int (nI aw)])), (tw, .inl (cI, 8, .inl (gA tw0))), (stt, .inl (cI, 4, .inl (gA st0))), (chd, .inl (cI, 4, .inl (gA c0))), (spr, .inl (cI, 4, .inl (gA p0))), (ci, .inr (0, [.ref sc, .ref mv, .int (nI r)])), (sc, .inl (cI, 60, .inl (gA w))), (mv, .inl (cI, 4, .inl (gA v))), (na, .inr (3, [.ref nc, .int (nI k0)])), (nc, .inl (cI, 17, .inl (gA f0)))] sz) := by
  refine Met.ofW (cc := cX7_turn) (maxL := 3) (ret := none) (by decide) rfl ?_
  intro p e s m args below meth c s₁ B9 hml hv
  obtain ⟨rfl, hsz, ⟨hP, hK, hD0⟩, hE⟩ := hv
  have hx := B9.exec
  have hb := B9.bytes
  have hr := B9.returns
  have hts := atoms_spec (ws := wsX7_turn) B9.pre
  have hown : s.vm.findClass RX7 = some m.cls := findClass_of_methodNamed B9.named
  have hlocks := B9.notSynchronized
  subst hsz
  have hD := hD0.self (sz := s.heap.size)
  generalize hAe : va_A [(x, .inr (6, [.ref bf, .ref kb, .ref to, .ref ro, .ref fw, .ref sw, .ref na, .ref wo])), (ro, .inr (4, [.ref rc, .int (nI n), .int (nI bs)])), (rc, .inl (cI, 64, .inl (gA f))), (to, .inr (1, [.ref tc, .int (nI tn)])), (tc, .inl (cI, 64, .inl (gA tb))), (fw, .inr (2, [.ref ci, .ref tw, .ref stt, .ref chd, .ref spr, .int (nI iw), .int (nI rp), .int (nI aw)])), (tw, .inl (cI, 8, .inl (gA tw0))), (stt, .inl (cI, 4, .inl (gA st0))), (chd, .inl (cI, 4, .inl (gA c0))), (spr, .inl (cI, 4, .inl (gA p0))), (ci, .inr (0, [.ref sc, .ref mv, .int (nI r)])), (sc, .inl (cI, 60, .inl (gA w))), (mv, .inl (cI, 4, .inl (gA v))), (na, .inr (3, [.ref nc, .int (nI k0)])), (nc, .inl (cI, 17, .inl (gA f0)))] s.heap.size = A at hD hE ⊢
  have hA : ∀ q : Nat, s.heap.size ≤ q → A q := fun q h => by rw [← hAe]; exact Or.inr h
  have hS : va_S A s.heap s.heap [] := va_S.rf
  have hl := lv_entry ([.ref x, .int (nI 0), .int (nI bk)]) (n := 3) (Nat.le_of_ble_eq_true rfl)
  rw [lg_entry_eq]
  generalize (lg_sl ([.ref x, .int (nI 0), .int (nI bk)]) ++ List.replicate (3 - (lg_sl ([.ref x, .int (nI 0), .int (nI bk)])).length) Slot.unset).toArray = ls at hl ⊢
  have hl : lv_has ls 3 [(0, .ref x), (1, .int (nI 0)), (2, .int (nI bk))] := hl
  have hn1 : 2 ≤ n := hyes.1
  refine lv_iload_n hx hb dX7_turn_0 rfl (lv_at hl 1 rfl) ?_
  refine gv_if_eq (tgt := 19) hx hb dX7_turn_1 (by decide) (by omega) (fun c_1 => ?_) (fun c_1 => ?_)
  ·
    refine lv_aload_n hx hb dX7_turn_19 rfl (lv_at hl 0 rfl) ?_
    refine lv_iload_n hx hb dX7_turn_20 rfl (lv_at hl 1 rfl) ?_
    have hPc := hP.sub (ws' := [(x, .inr (6, [.ref bf, .ref kb, .ref to, .ref ro, .ref fw, .ref sw, .ref na, .ref wo])), (ro, .inr (4, [.ref rc, .int (nI n), .int (nI bs)])), (to, .inr (1, [.ref tc, .int (nI tn)])), (fw, .inr (2, [.ref ci, .ref tw, .ref stt, .ref chd, .ref spr, .int (nI iw), .int (nI rp), .int (nI aw)])), (na, .inr (3, [.ref nc, .int (nI k0)])), (nc, .inl (cI, 17, .inl (gA f0)))]) [0, 1, 3, 5, 13, 14] rfl
    have hDc := hD.sub (ws' := [(x, .inr (6, [.ref bf, .ref kb, .ref to, .ref ro, .ref fw, .ref sw, .ref na, .ref wo])), (ro, .inr (4, [.ref rc, .int (nI n), .int (nI bs)])), (to, .inr (1, [.ref tc, .int (nI tn)])), (fw, .inr (2, [.ref ci, .ref tw, .ref stt, .ref chd, .ref spr, .int (nI iw), .int (nI rp), .int (nI aw)])), (na, .inr (3, [.ref nc, .int (nI k0)])), (nc, .inl (cI, 17, .inl (gA f0)))]) [0, 1, 3, 5, 13, 14] (by decide) rfl
    have hFc := va_free (wc := [(x, .inr (6, [.ref bf, .ref kb, .ref to, .ref ro, .ref fw, .ref sw, .ref na, .ref wo])), (ro, .inr (4, [.ref rc, .int (nI n), .int (nI bs)])), (to, .inr (1, [.ref tc, .int (nI tn)])), (fw, .inr (2, [.ref ci, .ref tw, .ref stt, .ref chd, .ref spr, .int (nI iw), .int (nI rp), .int (nI aw)])), (na, .inr (3, [.ref nc, .int (nI k0)])), (nc, .inl (cI, 17, .inl (gA f0)))]) hD hS hA [0, 1, 3, 5, 13, 14] rfl
    refine va_calli (va_runV (As := [.int (nI 0)]) (rest := []) ⟨hx, hb, hml, hown, hts⟩ (c_X7_isTurnable_0 l dC dI cI tS s.heap.size x bf kb to ro fw sw na wo rc tc nc n bs tn k0 ci tw stt chd spr iw rp aw f0 (by omega) (by omega) (by omega) (by omega)) (cwV 1 hts gX7_turn_X7_isTurnable rfl rfl rfl (by decide +kernel) ⟨Nat.le_of_ble_eq_true rfl, Nat.le_of_ble_eq_true rfl⟩) ⟨gPe_blind, va_recv hK hPc (ci := 6) (q0 := 0) rfl rfl, gPe_pre hPc hK hDc (hE.at hS) hFc⟩ rfl rfl hl.1 rfl (lv_room (Nat.le_of_ble_eq_true rfl)) dX7_turn_21 ⟨Nat.zero_le _, Nat.zero_le _⟩) hS (fun q _ h => hFc q h) hFc (fun r9 u8 t8 H1 locs ht hvm hw hB hz1 hk1 hS => ?_)
    obtain ⟨m9_1, f9_1⟩ := u8
    try dsimp only at hw hB
    obtain ⟨hP, hD⟩ := gB_join (wr := [(rc, .inl (cI, 64, .inl (gA f))), (tc, .inl (cI, 64, .inl (gA tb))), (tw, .inl (cI, 8, .inl (gA tw0))), (stt, .inl (cI, 4, .inl (gA st0))), (chd, .inl (cI, 4, .inl (gA c0))), (spr, .inl (cI, 4, .inl (gA p0))), (ci, .inr (0, [.ref sc, .ref mv, .int (nI r)])), (sc, .inl (cI, 60, .inl (gA w))), (mv, .inl (cI, 4, .inl (gA v)))]) (w2 := [(rc, .inl (cI, 64, .inl (gA f))), (tc, .inl (cI, 64, .inl (gA tb))), (tw, .inl (cI, 8, .inl (gA tw0))), (stt, .inl (cI, 4, .inl (gA st0))), (chd, .inl (cI, 4, .inl (gA c0))), (spr, .inl (cI, 4, .inl (gA p0))), (ci, .inr (0, [.ref sc, .ref mv, .int (nI r)])), (sc, .inl (cI, 60, .inl (gA w))), (mv, .inl (cI, 4, .inl (gA v))), (x, .inr (6, [.ref bf, .ref kb, .ref to, .ref ro, .ref fw, .ref sw, .ref na, .ref wo])), (ro, .inr (4, [.ref rc, .int (nI n), .int (nI bs)])), (to, .inr (1, [.ref tc, .int (nI tn)])), (fw, .inr (2, [.ref ci, .ref tw, .ref stt, .ref chd, .ref spr, .int (nI iw), .int (nI rp), .int (nI aw)])), (na, .inr (3, [.ref nc, .int (nI m9_1)])), (nc, .inl (cI, 17, .inl (gA f9_1)))]) hP hD [0, 1, 3, 5, 13, 14] [2, 4, 6, 7, 8, 9, 10, 11, 12] rfl rfl (by decide) (by decide) hk1 hFc ht hB rfl
    clear hk1 hz1 ht hB hvm hPc hDc hFc
    generalize H1 = H at hP hS ⊢
    subst hw
    refine gv_top (y := nI 1) (congrArg nI (if_pos hyes)) ?_
    refine gv_if_ne (tgt := 37) hx hb dX7_turn_24 (by decide) (by omega) (fun c_24 => ?_) (fun c_24 => ?_)
    ·
      refine lv_aload_n hx hb dX7_turn_37 rfl (lv_at hl 0 rfl) ?_
      refine lv_aload_n hx hb dX7_turn_38 rfl (lv_at hl 0 rfl) ?_
      refine lv_iload_n hx hb dX7_turn_39 rfl (lv_at hl 1 rfl) ?_
      have hPc := hP.sub (ws' := [(x, .inr (6, [.ref bf, .ref kb, .ref to, .ref ro, .ref fw, .ref sw, .ref na, .ref wo]))]) [9] rfl
      have hDc := hD.sub (ws' := [(x, .inr (6, [.ref bf, .ref kb, .ref to, .ref ro, .ref fw, .ref sw, .ref na, .ref wo]))]) [9] (by decide) rfl
      refine gv_callRf (W.runV (As := [.int (nI 0)]) (rest := [.ref x]) ⟨hx, hb, hml, hown, hts⟩ (c_X7_wayOf_0 l dC dI cI H.size x bf kb to ro fw sw na wo ) (cwV 1 hts gX7_turn_X7_wayOf rfl rfl rfl (by decide +kernel) ⟨Nat.le_of_ble_eq_true rfl, Nat.le_of_ble_eq_true rfl⟩) ⟨gPc_blind, va_recv hK hPc (ci := 6) (q0 := 0) rfl rfl, gPc_pre hPc hK hDc⟩ rfl rfl hl.1 rfl (lv_room (Nat.le_of_ble_eq_true rfl)) dX7_turn_40 ⟨Nat.zero_le _, Nat.zero_le _⟩) ?_
      clear hPc hDc
      refine lv_iload_n hx hb dX7_turn_43 rfl (lv_at hl 2 rfl) ?_
      have hPc := hP.sub (ws' := [(x, .inr (6, [.ref bf, .ref kb, .ref to, .ref ro, .ref fw, .ref sw, .ref na, .ref wo])), (ro, .inr (4, [.ref rc, .int (nI n), .int (nI bs)])), (rc, .inl (cI, 64, .inl (gA f))), (to, .inr (1, [.ref tc, .int (nI tn)])), (tc, .inl (cI, 64, .inl (gA tb))), (fw, .inr (2, [.ref ci, .ref tw, .ref stt, .ref chd, .ref spr, .int (nI iw), .int (nI rp), .int (nI aw)])), (tw, .inl (cI, 8, .inl (gA tw0))), (stt, .inl (cI, 4, .inl (gA st0))), (chd, .inl (cI, 4, .inl (gA c0))), (spr, .inl (cI, 4, .inl (gA p0))), (ci, .inr (0, [.ref sc, .ref mv, .int (nI r)])), (sc, .inl (cI, 60, .inl (gA w))), (mv, .inl (cI, 4, .inl (gA v))), (na, .inr (3, [.ref nc, .int (nI m9_1)])), (nc, .inl (cI, 17, .inl (gA f9_1)))]) [9, 10, 0, 11, 1, 12, 2, 3, 4, 5, 6, 7, 8, 13, 14] rfl
      have hDc := hD.sub (ws' := [(x, .inr (6, [.ref bf, .ref kb, .ref to, .ref ro, .ref fw, .ref sw, .ref na, .ref wo])), (ro, .inr (4, [.ref rc, .int (nI n), .int (nI bs)])), (rc, .inl (cI, 64, .inl (gA f))), (to, .inr (1, [.ref tc, .int (nI tn)])), (tc, .inl (cI, 64, .inl (gA tb))), (fw, .inr (2, [.ref ci, .ref tw, .ref stt, .ref chd, .ref spr, .int (nI iw), .int (nI rp), .int (nI aw)])), (tw, .inl (cI, 8, .inl (gA tw0))), (stt, .inl (cI, 4, .inl (gA st0))), (chd, .inl (cI, 4, .inl (gA c0))), (spr, .inl (cI, 4, .inl (gA p0))), (ci, .inr (0, [.ref sc, .ref mv, .int (nI r)])), (sc, .inl (cI, 60, .inl (gA w))), (mv, .inl (cI, 4, .inl (gA v))), (na, .inr (3, [.ref nc, .int (nI m9_1)])), (nc, .inl (cI, 17, .inl (gA f9_1)))]) [9, 10, 0, 11, 1, 12, 2, 3, 4, 5, 6, 7, 8, 13, 14] (by decide) rfl
      have hFc := va_free (wc := [(x, .inr (6, [.ref bf, .ref kb, .ref to, .ref ro, .ref fw, .ref sw, .ref na, .ref wo])), (ro, .inr (4, [.ref rc, .int (nI n), .int (nI bs)])), (rc, .inl (cI, 64, .inl (gA f))), (to, .inr (1, [.ref tc, .int (nI tn)])), (tc, .inl (cI, 64, .inl (gA tb))), (fw, .inr (2, [.ref ci, .ref tw, .ref stt, .ref chd, .ref spr, .int (nI iw), .int (nI rp), .int (nI aw)])), (tw, .inl (cI, 8, .inl (gA tw0))), (stt, .inl (cI, 4, .inl (gA st0))), (chd, .inl (cI, 4, .inl (gA c0))), (spr, .inl (cI, 4, .inl (gA p0))), (ci, .inr (0, [.ref sc, .ref mv, .int (nI r)])), (sc, .inl (cI, 60, .inl (gA w))), (mv, .inl (cI, 4, .inl (gA v))), (na, .inr (3, [.ref nc, .int (nI m9_1)])), (nc, .inl (cI, 17, .inl (gA f9_1)))]) hD hS hA [9, 10, 0, 11, 1, 12, 2, 3, 4, 5, 6, 7, 8, 13, 14] rfl
      refine va_callv (va_runV (As := [.ref fw, .int (nI bk)]) (rest := []) ⟨hx, hb, hml, hown, hts⟩ (c_X7_runRounds_0 l dC dI cI tS H.size x bf kb to ro fw sw na wo rc tc nc ci tw stt chd spr sc mv iw rp aw r n bs tn m9_1 bk f tb tw0 st0 c0 p0 w v f9_1 Wk hr1 hr2 hwk hW hn1 hn2 hb1 hb2 htn ht0 htb hbk hd0) (cwV 2 hts gX7_turn_X7_runRounds rfl rfl rfl (by decide +kernel) ⟨Nat.le_of_ble_eq_true rfl, Nat.le_of_ble_eq_true rfl⟩) ⟨gPe_blind, va_recv hK hPc (ci := 6) (q0 := 0) rfl rfl, gPe_pre hPc hK hDc (hE.at hS) hFc⟩ rfl rfl hl.1 rfl (lv_room (Nat.le_of_ble_eq_true rfl)) dX7_turn_44 ⟨Nat.zero_le _, Nat.zero_le _⟩) hS (fun q _ h => hFc q h) hFc (fun u8 t8 H1 locs ht hvm hw hB hz1 hk1 hS => ?_)
      obtain ⟨tw9_2, st9_2, c9_2, p9_2, v9_2, m9_2, f9_2⟩ := u8
      try dsimp only at hw hB
      obtain ⟨hP, hD⟩ := gB_join (wr := []) (w2 := [(x, .inr (6, [.ref bf, .ref kb, .ref to, .ref ro, .ref fw, .ref sw, .ref na, .ref wo])), (ro, .inr (4, [.ref rc, .int (nI n), .int (nI bs)])), (rc, .inl (cI, 64, .inl (gA (fei (FF1 Wk r bs n tn tb) 0 (n / 2) (n - n / 2) bk bs 10 f 10)))), (to, .inr (1, [.ref tc, .int (nI tn)])), (tc, .inl (cI, 64, .inl (gA tb))), (fw, .inr (2, [.ref ci, .ref tw, .ref stt, .ref chd, .ref spr, .int (nI (ff1iw bs n tn)), .int (nI (ff1rp bs n tn)), .int (nI (ff1aw bs n))])), (tw, .inl (cI, 8, .inl (gA tw9_2))), (stt, .inl (cI, 4, .inl (gA st9_2))), (chd, .inl (cI, 4, .inl (gA c9_2))), (spr, .inl (cI, 4, .inl (gA p9_2))), (ci, .inr (0, [.ref sc, .ref mv, .int (nI r)])), (sc, .inl (cI, 60, .inl (gA w))), (mv, .inl (cI, 4, .inl (gA v9_2))), (na, .inr (3, [.ref nc, .int (nI m9_2)])), (nc, .inl (cI, 17, .inl (gA f9_2)))]) hP hD [9, 10, 0, 11, 1, 12, 2, 3, 4, 5, 6, 7, 8, 13, 14] [] rfl rfl (by decide) (by decide) hk1 hFc ht hB rfl
      clear hk1 hz1 ht hB hvm hPc hDc hFc
      generalize H1 = H at hP hS ⊢
      exact W.vret hx hb hr (fun t ht hW => ⟨⟨(tw9_2, st9_2, c9_2, p9_2, v9_2, m9_2, f9_2), rfl, trivial, gB_end ht hW hP hK hD⟩, hS.F ht⟩) hS.2.2 dX7_turn_47
    ·
      exact absurd c_24 (by decide)
  ·
    exact absurd c_1 (by decide)

set_option maxHeartbeats 4000000 in
set_option maxRecDepth 100000 in
/-- the class, can: 1 -/
theorem c_X7_can_1 (l : Launch) (dC : Nat → ClassId) (dI : Nat → Nat → Nat) (cI : ClassId) (tS : Nat) (sz : Nat) (x : Nat) (bf : Nat) (kb : Nat) (to : Nat) (ro : Nat) (fw : Nat) (sw : Nat) (na : Nat) (wo : Nat) (rc : Nat) (tc : Nat) (nc : Nat) (n : Nat) (bs : Nat) (tn : Nat) (k0 : Nat) (ci2 : Nat) (tu : Nat) (lf : Nat) (rt : Nat) (f0 : Nat → Nat) (hn : n ≤ 64) (hb1 : 2 ≤ bs) (hb2 : bs ≤ 65536) (htn : tn ≤ 64) : Met l yX7_can wsX7_can ({ frames := 6, cells := 0, slots := 0, locals := 137 }) (gPe dC dI cI tS [.ref x, .int (nI 1)] [(x, .inr (6, [.ref bf, .ref kb, .ref to, .ref ro, .ref fw, .ref sw, .ref na, .ref wo])), (ro, .inr (4, [.ref rc, .int (nI n), .int (nI bs)])), (to, .inr (1, [.ref tc, .int (nI tn)])), (sw, .inr (5, [.ref ci2, .ref tu, .int (nI lf), .int (nI rt)])), (na, .inr (3, [.ref nc, .int (nI k0)])), (nc, .inl (cI, 17, .inl (gA f0)))] sz) (va_Qi (fun (r : Int32) (u : Nat × (Nat → Nat)) => r = (nI (if (2 ≤ n ∧ 1000000 ≤ bs ^ n) ∧ (tn = 7 ∧ bl (bs ^ (n - n / 2) - 1) ≤ 12) then 1 else 0))) (fun u t => gB dC dI cI (va_A [(x, .inr (6, [.ref bf, .ref kb, .ref to, .ref ro, .ref fw, .ref sw, .ref na, .ref wo])), (ro, .inr (4, [.ref rc, .int (nI n), .int (nI bs)])), (to, .inr (1, [.ref tc, .int (nI tn)])), (sw, .inr (5, [.ref ci2, .ref tu, .int (nI lf), .int (nI rt)])), (na, .inr (3, [.ref nc, .int (nI k0)])), (nc, .inl (cI, 17, .inl (gA f0)))] sz) [(x, .inr (6, [.ref bf, .ref kb, .ref to, .ref ro, .ref fw, .ref sw, .ref na, .ref wo])), (ro, .inr (4, [.ref rc, .int (nI n), .int (nI bs)])), (to, .inr (1, [.ref tc, .int (nI tn)])), (sw, .inr (5, [.ref ci2, .ref tu, .int (nI lf), .int (nI rt)])), (na, .inr (3, [.ref nc, .int (nI u.1)])), (nc, .inl (cI, 17, .inl (gA u.2)))] t) (va_A [(x, .inr (6, [.ref bf, .ref kb, .ref to, .ref ro, .ref fw, .ref sw, .ref na, .ref wo])), (ro, .inr (4, [.ref rc, .int (nI n), .int (nI bs)])), (to, .inr (1, [.ref tc, .int (nI tn)])), (sw, .inr (5, [.ref ci2, .ref tu, .int (nI lf), .int (nI rt)])), (na, .inr (3, [.ref nc, .int (nI k0)])), (nc, .inl (cI, 17, .inl (gA f0)))] sz)) 0 0 (va_A [(x, .inr (6, [.ref bf, .ref kb, .ref to, .ref ro, .ref fw, .ref sw, .ref na, .ref wo])), (ro, .inr (4, [.ref rc, .int (nI n), .int (nI bs)])), (to, .inr (1, [.ref tc, .int (nI tn)])), (sw, .inr (5, [.ref ci2, .ref tu, .int (nI lf), .int (nI rt)])), (na, .inr (3, [.ref nc, .int (nI k0)])), (nc, .inl (cI, 17, .inl (gA f0)))] sz) := by
  refine Met.ofW (cc := cX7_can) (maxL := 2) (ret := (some .boolean)) (by decide) rfl ?_
  intro p e s m args below meth c s₁ B9 hml hv
  obtain ⟨rfl, hsz, ⟨hP, hK, hD0⟩, hE⟩ := hv
  have hx := B9.exec
  have hb := B9.bytes
  have hr := B9.returns
  have hts := atoms_spec (ws := wsX7_can) B9.pre
  have hown : s.vm.findClass RX7 = some m.cls := findClass_of_methodNamed B9.named
  have hlocks := B9.notSynchronized
  subst hsz
  have hD := hD0.self (sz := s.heap.size)
  generalize hAe : va_A [(x, .inr (6, [.ref bf, .ref kb, .ref to, .ref ro, .ref fw, .ref sw, .ref na, .ref wo])), (ro, .inr (4, [.ref rc, .int (nI n), .int (nI bs)])), (to, .inr (1, [.ref tc, .int (nI tn)])), (sw, .inr (5, [.ref ci2, .ref tu, .int (nI lf), .int (nI rt)])), (na, .inr (3, [.ref nc, .int (nI k0)])), (nc, .inl (cI, 17, .inl (gA f0)))] s.heap.size = A at hD hE ⊢
  have hA : ∀ q : Nat, s.heap.size ≤ q → A q := fun q h => by rw [← hAe]; exact Or.inr h
  have hS : va_S A s.heap s.heap [] := va_S.rf
  have hl := lv_entry ([.ref x, .int (nI 1)]) (n := 2) (Nat.le_of_ble_eq_true rfl)
  rw [lg_entry_eq]
  generalize (lg_sl ([.ref x, .int (nI 1)]) ++ List.replicate (2 - (lg_sl ([.ref x, .int (nI 1)])).length) Slot.unset).toArray = ls at hl ⊢
  have hl : lv_has ls 2 [(0, .ref x), (1, .int (nI 1))] := hl
  refine lv_iload_n hx hb dX7_can_0 rfl (lv_at hl 1 rfl) ?_
  refine gv_if_eq (tgt := 19) hx hb dX7_can_1 (by decide) (by omega) (fun c_1 => ?_) (fun c_1 => ?_)
  ·
    exact absurd c_1 (by decide)
  ·
    refine lv_iload_n hx hb dX7_can_4 rfl (lv_at hl 1 rfl) ?_
    refine lv_iconst (v := nI 1) hx hb dX7_can_5 (by decide) ?_
    refine gv_icmp_eq (tgt := 19) hx hb dX7_can_6 (by decide) (by omega) (by omega) (fun c_6 => ?_) (fun c_6 => ?_)
    ·
      refine lv_aload_n hx hb dX7_can_19 rfl (lv_at hl 0 rfl) ?_
      refine lv_iload_n hx hb dX7_can_20 rfl (lv_at hl 1 rfl) ?_
      have hPc := hP.sub (ws' := [(x, .inr (6, [.ref bf, .ref kb, .ref to, .ref ro, .ref fw, .ref sw, .ref na, .ref wo])), (ro, .inr (4, [.ref rc, .int (nI n), .int (nI bs)])), (to, .inr (1, [.ref tc, .int (nI tn)])), (sw, .inr (5, [.ref ci2, .ref tu, .int (nI lf), .int (nI rt)])), (na, .inr (3, [.ref nc, .int (nI k0)])), (nc, .inl (cI, 17, .inl (gA f0)))]) [0, 1, 2, 3, 4, 5] rfl
      have hDc := hD.sub (ws' := [(x, .inr (6, [.ref bf, .ref kb, .ref to, .ref ro, .ref fw, .ref sw, .ref na, .ref wo])), (ro, .inr (4, [.ref rc, .int (nI n), .int (nI bs)])), (to, .inr (1, [.ref tc, .int (nI tn)])), (sw, .inr (5, [.ref ci2, .ref tu, .int (nI lf), .int (nI rt)])), (na, .inr (3, [.ref nc, .int (nI k0)])), (nc, .inl (cI, 17, .inl (gA f0)))]) [0, 1, 2, 3, 4, 5] (by decide) rfl
      have hFc := va_free (wc := [(x, .inr (6, [.ref bf, .ref kb, .ref to, .ref ro, .ref fw, .ref sw, .ref na, .ref wo])), (ro, .inr (4, [.ref rc, .int (nI n), .int (nI bs)])), (to, .inr (1, [.ref tc, .int (nI tn)])), (sw, .inr (5, [.ref ci2, .ref tu, .int (nI lf), .int (nI rt)])), (na, .inr (3, [.ref nc, .int (nI k0)])), (nc, .inl (cI, 17, .inl (gA f0)))]) hD hS hA [0, 1, 2, 3, 4, 5] rfl
      refine va_calli (va_runV (As := [.int (nI 1)]) (rest := []) ⟨hx, hb, hml, hown, hts⟩ (c_X7_isTurnable_1 l dC dI cI tS s.heap.size x bf kb to ro fw sw na wo rc tc nc n bs tn k0 ci2 tu lf rt f0 (by omega) (by omega) (by omega) (by omega)) (cwV 1 hts gX7_can_X7_isTurnable rfl rfl rfl (by decide +kernel) ⟨Nat.le_of_ble_eq_true rfl, Nat.le_of_ble_eq_true rfl⟩) ⟨gPe_blind, va_recv hK hPc (ci := 6) (q0 := 0) rfl rfl, gPe_pre hPc hK hDc (hE.at hS) hFc⟩ rfl rfl hl.1 rfl (lv_room (Nat.le_of_ble_eq_true rfl)) dX7_can_21 ⟨Nat.zero_le _, Nat.zero_le _⟩) hS (fun q _ h => hFc q h) hFc (fun r9 u8 t8 H1 locs ht hvm hw hB hz1 hk1 hS => ?_)
      obtain ⟨m9_1, f9_1⟩ := u8
      try dsimp only at hw hB
      obtain ⟨hP, hD⟩ := gB_join (wr := []) (w2 := [(x, .inr (6, [.ref bf, .ref kb, .ref to, .ref ro, .ref fw, .ref sw, .ref na, .ref wo])), (ro, .inr (4, [.ref rc, .int (nI n), .int (nI bs)])), (to, .inr (1, [.ref tc, .int (nI tn)])), (sw, .inr (5, [.ref ci2, .ref tu, .int (nI lf), .int (nI rt)])), (na, .inr (3, [.ref nc, .int (nI m9_1)])), (nc, .inl (cI, 17, .inl (gA f9_1)))]) hP hD [0, 1, 2, 3, 4, 5] [] rfl rfl (by decide) (by decide) hk1 hFc ht hB rfl
      clear hk1 hz1 ht hB hvm hPc hDc hFc
      generalize H1 = H at hP hS ⊢
      subst hw
      exact W.zret (v := (nI (if (2 ≤ n ∧ 1000000 ≤ bs ^ n) ∧ (tn = 7 ∧ bl (bs ^ (n - n / 2) - 1) ≤ 12) then 1 else 0))) hx hb hr (by split <;> rfl) (fun t ht hW => ⟨⟨_, (m9_1, f9_1), rfl, rfl, gB_end ht hW hP hK hD⟩, hS.F ht⟩) hS.2.2 dX7_can_24
    ·
      exact absurd c_6 (by decide)

set_option maxHeartbeats 4000000 in
set_option maxRecDepth 100000 in
/-- the class, turn: 1 -/
theorem c_X7_turn_1 (l : Launch) (dC : Nat → ClassId) (dI : Nat → Nat → Nat) (cI : ClassId) (tS : Nat) (sz : Nat) (x : Nat) (bf : Nat) (kb : Nat) (to : Nat) (ro : Nat) (fw : Nat) (sw : Nat) (na : Nat) (wo : Nat) (rc : Nat) (tc : Nat) (nc : Nat) (ci : Nat) (tu : Nat) (sc : Nat) (mv : Nat) (lf : Nat) (rt : Nat) (r : Nat) (n : Nat) (bs : Nat) (tn : Nat) (k0 : Nat) (bk : Nat) (f : Nat → Nat) (tb : Nat → Nat) (t0 : Nat → Nat) (w : Nat → Nat) (v : Nat → Nat) (f0 : Nat → Nat) (Wk : Nat → Nat) (hr1 : 1 ≤ r) (hr2 : r ≤ 14) (hwk : ∀ k, k < 4 * (r + 1) → w k = pkf Wk k) (hW : ∀ j, j < 16 * (r + 1) → Wk j < 256) (hn2 : n ≤ 64) (hb1 : 2 ≤ bs) (hb2 : bs ≤ 65536) (htn : tn ≤ 32) (ht0 : ∀ j, tn ≤ j → j < 64 → tb j = 0) (htb : ∀ j, j < 64 → tb j < 256) (hbk : bk ≤ 1) (hd0 : ∀ q, q < n → f q < bs) (hyes : (2 ≤ n ∧ 1000000 ≤ bs ^ n) ∧ (tn = 7 ∧ bl (bs ^ (n - n / 2) - 1) ≤ 12)) : Met l yX7_turn wsX7_turn ({ frames := 6, cells := 0, slots := 0, locals := 137 }) (gPe dC dI cI tS [.ref x, .int (nI 1), .int (nI bk)] [(x, .inr (6, [.ref bf, .ref kb, .ref to, .ref ro, .ref fw, .ref sw, .ref na, .ref wo])), (ro, .inr (4, [.ref rc, .int (nI n), .int (nI bs)])), (rc, .inl (cI, 64, .inl (gA f))), (to, .inr (1, [.ref tc, .int (nI tn)])), (tc, .inl (cI, 64, .inl (gA tb))), (sw, .inr (5, [.ref ci, .ref tu, .int (nI lf), .int (nI rt)])), (tu, .inl (cI, 4, .inl (gA t0))), (ci, .inr (0, [.ref sc, .ref mv, .int (nI r)])), (sc, .inl (cI, 60, .inl (gA w))), (mv, .inl (cI, 4, .inl (gA v))), (na, .inr (3, [.ref nc, .int (nI k0)])), (nc, .inl (cI, 17, .inl (gA f0)))] sz) (va_Qv (fun u : (Nat → Nat) × (Nat → Nat) × Nat × (Nat → Nat) => True) (fun u t => gB dC dI cI (va_A [(x, .inr (6, [.ref bf, .ref kb, .ref to, .ref ro, .ref fw, .ref sw, .ref na, .ref wo])), (ro, .inr (4, [.ref rc, .int (nI n), .int (nI bs)])), (rc, .inl (cI, 64, .inl (gA f))), (to, .inr (1, [.ref tc, .int (nI tn)])), (tc, .inl (cI, 64, .inl (gA tb))), (sw, .inr (5, [.ref ci, .ref tu, .int (nI lf), .int (nI rt)])), (tu, .inl (cI, 4, .inl (gA t0))), (ci, .inr (0, [.ref sc, .ref mv, .int (nI r)])), (sc, .inl (cI, 60, .inl (gA w))), (mv, .inl (cI, 4, .inl (gA v))), (na, .inr (3, [.ref nc, .int (nI k0)])), (nc, .inl (cI, 17, .inl (gA f0)))] sz) [(x, .inr (6, [.ref bf, .ref kb, .ref to, .ref ro, .ref fw, .ref sw, .ref na, .ref wo])), (ro, .inr (4, [.ref rc, .int (nI n), .int (nI bs)])), (rc, .inl (cI, 64, .inl (gA (fei (FF3 Wk r tb) 1 (n - n / 2) (n - (n - n / 2)) bk bs 8 f 8)))), (to, .inr (1, [.ref tc, .int (nI tn)])), (tc, .inl (cI, 64, .inl (gA tb))), (sw, .inr (5, [.ref ci, .ref tu, .int (nI (lfB tb)), .int (nI (rtB tb))])), (tu, .inl (cI, 4, .inl (gA u.1))), (ci, .inr (0, [.ref sc, .ref mv, .int (nI r)])), (sc, .inl (cI, 60, .inl (gA w))), (mv, .inl (cI, 4, .inl (gA u.2.1))), (na, .inr (3, [.ref nc, .int (nI u.2.2.1)])), (nc, .inl (cI, 17, .inl (gA u.2.2.2)))] t) (va_A [(x, .inr (6, [.ref bf, .ref kb, .ref to, .ref ro, .ref fw, .ref sw, .ref na, .ref wo])), (ro, .inr (4, [.ref rc, .int (nI n), .int (nI bs)])), (rc, .inl (cI, 64, .inl (gA f))), (to, .inr (1, [.ref tc, .int (nI tn)])), (tc, .inl (cI, 64, .inl (gA tb))), (sw, .inr (5, [.ref ci, .ref tu, .int (nI lf), .int (nI rt)])), (tu, .inl (cI, 4, .inl (gA t0))), (ci, .inr (0, [.ref sc, .ref mv, .int (nI r)])), (sc, .inl (cI, 60, .inl (gA w))), (mv, .inl (cI, 4, .inl (gA v))), (na, .inr (3, [.ref nc, .int (nI k0)])), (nc, .inl (cI, 17, .inl (gA f0)))] sz)) 0 0 (va_A [(x, .inr (6, [.ref bf, .ref kb, .ref to, .ref ro, .ref fw, .ref sw, .ref na, .ref wo])), (ro, .inr (4, [.ref rc, .int (nI n), .int (nI bs)])), (rc, .inl (cI, 64, .inl (gA f))), (to, .inr (1, [.ref tc, .int (nI tn)])), (tc, .inl (cI, 64, .inl (gA tb))), (sw, .inr (5, [.ref ci, .ref tu, .int (nI lf), .int (nI rt)])), (tu, .inl (cI, 4, .inl (gA t0))), (ci, .inr (0, [.ref sc, .ref mv, .int (nI r)])), (sc, .inl (cI, 60, .inl (gA w))), (mv, .inl (cI, 4, .inl (gA v))), (na, .inr (3, [.ref nc, .int (nI k0)])), (nc, .inl (cI, 17, .inl (gA f0)))] sz) := by
  refine Met.ofW (cc := cX7_turn) (maxL := 3) (ret := none) (by decide) rfl ?_
  intro p e s m args below meth c s₁ B9 hml hv
  obtain ⟨rfl, hsz, ⟨hP, hK, hD0⟩, hE⟩ := hv
  have hx := B9.exec
  have hb := B9.bytes
  have hr := B9.returns
  have hts := atoms_spec (ws := wsX7_turn) B9.pre
  have hown : s.vm.findClass RX7 = some m.cls := findClass_of_methodNamed B9.named
  have hlocks := B9.notSynchronized
  subst hsz
  have hD := hD0.self (sz := s.heap.size)
  generalize hAe : va_A [(x, .inr (6, [.ref bf, .ref kb, .ref to, .ref ro, .ref fw, .ref sw, .ref na, .ref wo])), (ro, .inr (4, [.ref rc, .int (nI n), .int (nI bs)])), (rc, .inl (cI, 64, .inl (gA f))), (to, .inr (1, [.ref tc, .int (nI tn)])), (tc, .inl (cI, 64, .inl (gA tb))), (sw, .inr (5, [.ref ci, .ref tu, .int (nI lf), .int (nI rt)])), (tu, .inl (cI, 4, .inl (gA t0))), (ci, .inr (0, [.ref sc, .ref mv, .int (nI r)])), (sc, .inl (cI, 60, .inl (gA w))), (mv, .inl (cI, 4, .inl (gA v))), (na, .inr (3, [.ref nc, .int (nI k0)])), (nc, .inl (cI, 17, .inl (gA f0)))] s.heap.size = A at hD hE ⊢
  have hA : ∀ q : Nat, s.heap.size ≤ q → A q := fun q h => by rw [← hAe]; exact Or.inr h
  have hS : va_S A s.heap s.heap [] := va_S.rf
  have hl := lv_entry ([.ref x, .int (nI 1), .int (nI bk)]) (n := 3) (Nat.le_of_ble_eq_true rfl)
  rw [lg_entry_eq]
  generalize (lg_sl ([.ref x, .int (nI 1), .int (nI bk)]) ++ List.replicate (3 - (lg_sl ([.ref x, .int (nI 1), .int (nI bk)])).length) Slot.unset).toArray = ls at hl ⊢
  have hl : lv_has ls 3 [(0, .ref x), (1, .int (nI 1)), (2, .int (nI bk))] := hl
  have hn1 : 2 ≤ n := hyes.1.1
  refine lv_iload_n hx hb dX7_turn_0 rfl (lv_at hl 1 rfl) ?_
  refine gv_if_eq (tgt := 19) hx hb dX7_turn_1 (by decide) (by omega) (fun c_1 => ?_) (fun c_1 => ?_)
  ·
    exact absurd c_1 (by decide)
  ·
    refine lv_iload_n hx hb dX7_turn_4 rfl (lv_at hl 1 rfl) ?_
    refine lv_iconst (v := nI 1) hx hb dX7_turn_5 (by decide) ?_
    refine gv_icmp_eq (tgt := 19) hx hb dX7_turn_6 (by decide) (by omega) (by omega) (fun c_6 => ?_) (fun c_6 => ?_)
    ·
      refine lv_aload_n hx hb dX7_turn_19 rfl (lv_at hl 0 rfl) ?_
      refine lv_iload_n hx hb dX7_turn_20 rfl (lv_at hl 1 rfl) ?_
      have hPc := hP.sub (ws' := [(x, .inr (6, [.ref bf, .ref kb, .ref to, .ref ro, .ref fw, .ref sw, .ref na, .ref wo])), (ro, .inr (4, [.ref rc, .int (nI n), .int (nI bs)])), (to, .inr (1, [.ref tc, .int (nI tn)])), (sw, .inr (5, [.ref ci, .ref tu, .int (nI lf), .int (nI rt)])), (na, .inr (3, [.ref nc, .int (nI k0)])), (nc, .inl (cI, 17, .inl (gA f0)))]) [0, 1, 3, 5, 10, 11] rfl
      have hDc := hD.sub (ws' := [(x, .inr (6, [.ref bf, .ref kb, .ref to, .ref ro, .ref fw, .ref sw, .ref na, .ref wo])), (ro, .inr (4, [.ref rc, .int (nI n), .int (nI bs)])), (to, .inr (1, [.ref tc, .int (nI tn)])), (sw, .inr (5, [.ref ci, .ref tu, .int (nI lf), .int (nI rt)])), (na, .inr (3, [.ref nc, .int (nI k0)])), (nc, .inl (cI, 17, .inl (gA f0)))]) [0, 1, 3, 5, 10, 11] (by decide) rfl
      have hFc := va_free (wc := [(x, .inr (6, [.ref bf, .ref kb, .ref to, .ref ro, .ref fw, .ref sw, .ref na, .ref wo])), (ro, .inr (4, [.ref rc, .int (nI n), .int (nI bs)])), (to, .inr (1, [.ref tc, .int (nI tn)])), (sw, .inr (5, [.ref ci, .ref tu, .int (nI lf), .int (nI rt)])), (na, .inr (3, [.ref nc, .int (nI k0)])), (nc, .inl (cI, 17, .inl (gA f0)))]) hD hS hA [0, 1, 3, 5, 10, 11] rfl
      refine va_calli (va_runV (As := [.int (nI 1)]) (rest := []) ⟨hx, hb, hml, hown, hts⟩ (c_X7_isTurnable_1 l dC dI cI tS s.heap.size x bf kb to ro fw sw na wo rc tc nc n bs tn k0 ci tu lf rt f0 (by omega) (by omega) (by omega) (by omega)) (cwV 1 hts gX7_turn_X7_isTurnable rfl rfl rfl (by decide +kernel) ⟨Nat.le_of_ble_eq_true rfl, Nat.le_of_ble_eq_true rfl⟩) ⟨gPe_blind, va_recv hK hPc (ci := 6) (q0 := 0) rfl rfl, gPe_pre hPc hK hDc (hE.at hS) hFc⟩ rfl rfl hl.1 rfl (lv_room (Nat.le_of_ble_eq_true rfl)) dX7_turn_21 ⟨Nat.zero_le _, Nat.zero_le _⟩) hS (fun q _ h => hFc q h) hFc (fun r9 u8 t8 H1 locs ht hvm hw hB hz1 hk1 hS => ?_)
      obtain ⟨m9_1, f9_1⟩ := u8
      try dsimp only at hw hB
      obtain ⟨hP, hD⟩ := gB_join (wr := [(rc, .inl (cI, 64, .inl (gA f))), (tc, .inl (cI, 64, .inl (gA tb))), (tu, .inl (cI, 4, .inl (gA t0))), (ci, .inr (0, [.ref sc, .ref mv, .int (nI r)])), (sc, .inl (cI, 60, .inl (gA w))), (mv, .inl (cI, 4, .inl (gA v)))]) (w2 := [(rc, .inl (cI, 64, .inl (gA f))), (tc, .inl (cI, 64, .inl (gA tb))), (tu, .inl (cI, 4, .inl (gA t0))), (ci, .inr (0, [.ref sc, .ref mv, .int (nI r)])), (sc, .inl (cI, 60, .inl (gA w))), (mv, .inl (cI, 4, .inl (gA v))), (x, .inr (6, [.ref bf, .ref kb, .ref to, .ref ro, .ref fw, .ref sw, .ref na, .ref wo])), (ro, .inr (4, [.ref rc, .int (nI n), .int (nI bs)])), (to, .inr (1, [.ref tc, .int (nI tn)])), (sw, .inr (5, [.ref ci, .ref tu, .int (nI lf), .int (nI rt)])), (na, .inr (3, [.ref nc, .int (nI m9_1)])), (nc, .inl (cI, 17, .inl (gA f9_1)))]) hP hD [0, 1, 3, 5, 10, 11] [2, 4, 6, 7, 8, 9] rfl rfl (by decide) (by decide) hk1 hFc ht hB rfl
      clear hk1 hz1 ht hB hvm hPc hDc hFc
      generalize H1 = H at hP hS ⊢
      subst hw
      refine gv_top (y := nI 1) (congrArg nI (if_pos hyes)) ?_
      refine gv_if_ne (tgt := 37) hx hb dX7_turn_24 (by decide) (by omega) (fun c_24 => ?_) (fun c_24 => ?_)
      ·
        refine lv_aload_n hx hb dX7_turn_37 rfl (lv_at hl 0 rfl) ?_
        refine lv_aload_n hx hb dX7_turn_38 rfl (lv_at hl 0 rfl) ?_
        refine lv_iload_n hx hb dX7_turn_39 rfl (lv_at hl 1 rfl) ?_
        have hPc := hP.sub (ws' := [(x, .inr (6, [.ref bf, .ref kb, .ref to, .ref ro, .ref fw, .ref sw, .ref na, .ref wo]))]) [6] rfl
        have hDc := hD.sub (ws' := [(x, .inr (6, [.ref bf, .ref kb, .ref to, .ref ro, .ref fw, .ref sw, .ref na, .ref wo]))]) [6] (by decide) rfl
        refine gv_callRf (W.runV (As := [.int (nI 1)]) (rest := [.ref x]) ⟨hx, hb, hml, hown, hts⟩ (c_X7_wayOf_1 l dC dI cI H.size x bf kb to ro fw sw na wo ) (cwV 1 hts gX7_turn_X7_wayOf rfl rfl rfl (by decide +kernel) ⟨Nat.le_of_ble_eq_true rfl, Nat.le_of_ble_eq_true rfl⟩) ⟨gPc_blind, va_recv hK hPc (ci := 6) (q0 := 0) rfl rfl, gPc_pre hPc hK hDc⟩ rfl rfl hl.1 rfl (lv_room (Nat.le_of_ble_eq_true rfl)) dX7_turn_40 ⟨Nat.zero_le _, Nat.zero_le _⟩) ?_
        clear hPc hDc
        refine lv_iload_n hx hb dX7_turn_43 rfl (lv_at hl 2 rfl) ?_
        have hPc := hP.sub (ws' := [(x, .inr (6, [.ref bf, .ref kb, .ref to, .ref ro, .ref fw, .ref sw, .ref na, .ref wo])), (ro, .inr (4, [.ref rc, .int (nI n), .int (nI bs)])), (rc, .inl (cI, 64, .inl (gA f))), (to, .inr (1, [.ref tc, .int (nI tn)])), (tc, .inl (cI, 64, .inl (gA tb))), (sw, .inr (5, [.ref ci, .ref tu, .int (nI lf), .int (nI rt)])), (tu, .inl (cI, 4, .inl (gA t0))), (ci, .inr (0, [.ref sc, .ref mv, .int (nI r)])), (sc, .inl (cI, 60, .inl (gA w))), (mv, .inl (cI, 4, .inl (gA v))), (na, .inr (3, [.ref nc, .int (nI m9_1)])), (nc, .inl (cI, 17, .inl (gA f9_1)))]) [6, 7, 0, 8, 1, 9, 2, 3, 4, 5, 10, 11] rfl
        have hDc := hD.sub (ws' := [(x, .inr (6, [.ref bf, .ref kb, .ref to, .ref ro, .ref fw, .ref sw, .ref na, .ref wo])), (ro, .inr (4, [.ref rc, .int (nI n), .int (nI bs)])), (rc, .inl (cI, 64, .inl (gA f))), (to, .inr (1, [.ref tc, .int (nI tn)])), (tc, .inl (cI, 64, .inl (gA tb))), (sw, .inr (5, [.ref ci, .ref tu, .int (nI lf), .int (nI rt)])), (tu, .inl (cI, 4, .inl (gA t0))), (ci, .inr (0, [.ref sc, .ref mv, .int (nI r)])), (sc, .inl (cI, 60, .inl (gA w))), (mv, .inl (cI, 4, .inl (gA v))), (na, .inr (3, [.ref nc, .int (nI m9_1)])), (nc, .inl (cI, 17, .inl (gA f9_1)))]) [6, 7, 0, 8, 1, 9, 2, 3, 4, 5, 10, 11] (by decide) rfl
        have hFc := va_free (wc := [(x, .inr (6, [.ref bf, .ref kb, .ref to, .ref ro, .ref fw, .ref sw, .ref na, .ref wo])), (ro, .inr (4, [.ref rc, .int (nI n), .int (nI bs)])), (rc, .inl (cI, 64, .inl (gA f))), (to, .inr (1, [.ref tc, .int (nI tn)])), (tc, .inl (cI, 64, .inl (gA tb))), (sw, .inr (5, [.ref ci, .ref tu, .int (nI lf), .int (nI rt)])), (tu, .inl (cI, 4, .inl (gA t0))), (ci, .inr (0, [.ref sc, .ref mv, .int (nI r)])), (sc, .inl (cI, 60, .inl (gA w))), (mv, .inl (cI, 4, .inl (gA v))), (na, .inr (3, [.ref nc, .int (nI m9_1)])), (nc, .inl (cI, 17, .inl (gA f9_1)))]) hD hS hA [6, 7, 0, 8, 1, 9, 2, 3, 4, 5, 10, 11] rfl
        refine va_callv (va_runV (As := [.ref sw, .int (nI bk)]) (rest := []) ⟨hx, hb, hml, hown, hts⟩ (c_X7_runRounds_1 l dC dI cI tS H.size x bf kb to ro fw sw na wo rc tc nc ci tu sc mv lf rt r n bs tn m9_1 bk f tb t0 w v f9_1 Wk hr1 hr2 hwk hW hn1 hn2 hb1 hb2 htn ht0 htb hbk hd0) (cwV 2 hts gX7_turn_X7_runRounds rfl rfl rfl (by decide +kernel) ⟨Nat.le_of_ble_eq_true rfl, Nat.le_of_ble_eq_true rfl⟩) ⟨gPe_blind, va_recv hK hPc (ci := 6) (q0 := 0) rfl rfl, gPe_pre hPc hK hDc (hE.at hS) hFc⟩ rfl rfl hl.1 rfl (lv_room (Nat.le_of_ble_eq_true rfl)) dX7_turn_44 ⟨Nat.zero_le _, Nat.zero_le _⟩) hS (fun q _ h => hFc q h) hFc (fun u8 t8 H1 locs ht hvm hw hB hz1 hk1 hS => ?_)
        obtain ⟨t9_2, v9_2, m9_2, f9_2⟩ := u8
        try dsimp only at hw hB
        obtain ⟨hP, hD⟩ := gB_join (wr := []) (w2 := [(x, .inr (6, [.ref bf, .ref kb, .ref to, .ref ro, .ref fw, .ref sw, .ref na, .ref wo])), (ro, .inr (4, [.ref rc, .int (nI n), .int (nI bs)])), (rc, .inl (cI, 64, .inl (gA (fei (FF3 Wk r tb) 1 (n - n / 2) (n - (n - n / 2)) bk bs 8 f 8)))), (to, .inr (1, [.ref tc, .int (nI tn)])), (tc, .inl (cI, 64, .inl (gA tb))), (sw, .inr (5, [.ref ci, .ref tu, .int (nI (lfB tb)), .int (nI (rtB tb))])), (tu, .inl (cI, 4, .inl (gA t9_2))), (ci, .inr (0, [.ref sc, .ref mv, .int (nI r)])), (sc, .inl (cI, 60, .inl (gA w))), (mv, .inl (cI, 4, .inl (gA v9_2))), (na, .inr (3, [.ref nc, .int (nI m9_2)])), (nc, .inl (cI, 17, .inl (gA f9_2)))]) hP hD [6, 7, 0, 8, 1, 9, 2, 3, 4, 5, 10, 11] [] rfl rfl (by decide) (by decide) hk1 hFc ht hB rfl
        clear hk1 hz1 ht hB hvm hPc hDc hFc
        generalize H1 = H at hP hS ⊢
        exact W.vret hx hb hr (fun t ht hW => ⟨⟨(t9_2, v9_2, m9_2, f9_2), rfl, trivial, gB_end ht hW hP hK hD⟩, hS.F ht⟩) hS.2.2 dX7_turn_47
      ·
        exact absurd c_24 (by decide)
    ·
      exact absurd c_6 (by decide)

set_option maxHeartbeats 4000000 in
set_option maxRecDepth 100000 in
/-- the class, count: 0 -/
theorem c_X7_count_0 (l : Launch) (dC : Nat → ClassId) (dI : Nat → Nat → Nat) (cI : ClassId) (tS : Nat) (sz : Nat) (x : Nat) (bf : Nat) (kb : Nat) (to : Nat) (ro : Nat) (fw : Nat) (sw : Nat) (na : Nat) (wo : Nat) (rc : Nat) (n : Nat) (bs : Nat) : Met l yX7_count wsX7_count ({ frames := 0, cells := 0, slots := 0, locals := 0 }) (gPe dC dI cI tS [.ref x, .int (nI 0)] [(x, .inr (6, [.ref bf, .ref kb, .ref to, .ref ro, .ref fw, .ref sw, .ref na, .ref wo])), (ro, .inr (4, [.ref rc, .int (nI n), .int (nI bs)]))] sz) (va_Qi (fun (r : Int32) (_u : Unit) => r = (nI n)) (fun _u t => gB dC dI cI (va_A [(x, .inr (6, [.ref bf, .ref kb, .ref to, .ref ro, .ref fw, .ref sw, .ref na, .ref wo])), (ro, .inr (4, [.ref rc, .int (nI n), .int (nI bs)]))] sz) [(x, .inr (6, [.ref bf, .ref kb, .ref to, .ref ro, .ref fw, .ref sw, .ref na, .ref wo])), (ro, .inr (4, [.ref rc, .int (nI n), .int (nI bs)]))] t) (va_A [(x, .inr (6, [.ref bf, .ref kb, .ref to, .ref ro, .ref fw, .ref sw, .ref na, .ref wo])), (ro, .inr (4, [.ref rc, .int (nI n), .int (nI bs)]))] sz)) 0 0 (va_A [(x, .inr (6, [.ref bf, .ref kb, .ref to, .ref ro, .ref fw, .ref sw, .ref na, .ref wo])), (ro, .inr (4, [.ref rc, .int (nI n), .int (nI bs)]))] sz) := by
  refine Met.ofW (cc := cX7_count) (maxL := 2) (ret := (some .int)) (by decide) rfl ?_
  intro p e s m args below meth c s₁ B9 hml hv
  obtain ⟨rfl, hsz, ⟨hP, hK, hD0⟩, hE⟩ := hv
  have hx := B9.exec
  have hb := B9.bytes
  have hr := B9.returns
  have hts := atoms_spec (ws := wsX7_count) B9.pre
  have hown : s.vm.findClass RX7 = some m.cls := findClass_of_methodNamed B9.named
  have hlocks := B9.notSynchronized
  subst hsz
  have hD := hD0.self (sz := s.heap.size)
  generalize hAe : va_A [(x, .inr (6, [.ref bf, .ref kb, .ref to, .ref ro, .ref fw, .ref sw, .ref na, .ref wo])), (ro, .inr (4, [.ref rc, .int (nI n), .int (nI bs)]))] s.heap.size = A at hD hE ⊢
  have hA : ∀ q : Nat, s.heap.size ≤ q → A q := fun q h => by rw [← hAe]; exact Or.inr h
  have hS : va_S A s.heap s.heap [] := va_S.rf
  have hl := lv_entry ([.ref x, .int (nI 0)]) (n := 2) (Nat.le_of_ble_eq_true rfl)
  rw [lg_entry_eq]
  generalize (lg_sl ([.ref x, .int (nI 0)]) ++ List.replicate (2 - (lg_sl ([.ref x, .int (nI 0)])).length) Slot.unset).toArray = ls at hl ⊢
  have hl : lv_has ls 2 [(0, .ref x), (1, .int (nI 0))] := hl
  refine lv_iload_n hx hb dX7_count_0 rfl (lv_at hl 1 rfl) ?_
  refine lv_tableIn (off := 35) (tgt := 36) hx hb dX7_count_1 (by decide) (by decide) (by decide) (by decide) ?_
  refine lv_aload_n hx hb dX7_count_36 rfl (lv_at hl 0 rfl) ?_
  refine gv_get (own := RX7) (D := (dC, dI)) (ci := 6) (C := RX7) (T := TX7) (N := 8) (v := .ref ro) hx hb hts (by decide +kernel) hown hK hP 0 rfl rfl 3 (by decide) (hts (.fieldLink RX7 25 "NumeralCipher" "row" "LNumeralCipher$Row;") (by decide +kernel)) rfl rfl dX7_count_37 ?_
  refine gv_getN (own := RX7) (D := (dC, dI)) (ci := 4) (C := RX4) (T := TX4) (N := 3) (v := .int (nI n)) hx hb hts (by decide +kernel) hown hK hP 1 rfl rfl 1 (by decide) (hE.nest (.fieldLinkNest "NumeralCipher" 113 "NumeralCipher$Row" "size" "I" "NumeralCipher") (by decide +kernel)) rfl rfl dX7_count_40 ?_
  exact W.iret (v := (nI n)) hx hb hr (fun t ht hW => ⟨⟨_, (), rfl, rfl, gB_end ht hW hP hK hD⟩, hS.F ht⟩) hS.2.2 dX7_count_43

set_option maxHeartbeats 4000000 in
set_option maxRecDepth 100000 in
/-- the class, count: 1 -/
theorem c_X7_count_1 (l : Launch) (dC : Nat → ClassId) (dI : Nat → Nat → Nat) (cI : ClassId) (tS : Nat) (sz : Nat) (x : Nat) (bf : Nat) (kb : Nat) (to : Nat) (ro : Nat) (fw : Nat) (sw : Nat) (na : Nat) (wo : Nat) (rc : Nat) (n : Nat) (bs : Nat) : Met l yX7_count wsX7_count ({ frames := 0, cells := 0, slots := 0, locals := 0 }) (gPe dC dI cI tS [.ref x, .int (nI 1)] [(x, .inr (6, [.ref bf, .ref kb, .ref to, .ref ro, .ref fw, .ref sw, .ref na, .ref wo])), (ro, .inr (4, [.ref rc, .int (nI n), .int (nI bs)]))] sz) (va_Qi (fun (r : Int32) (_u : Unit) => r = (nI bs)) (fun _u t => gB dC dI cI (va_A [(x, .inr (6, [.ref bf, .ref kb, .ref to, .ref ro, .ref fw, .ref sw, .ref na, .ref wo])), (ro, .inr (4, [.ref rc, .int (nI n), .int (nI bs)]))] sz) [(x, .inr (6, [.ref bf, .ref kb, .ref to, .ref ro, .ref fw, .ref sw, .ref na, .ref wo])), (ro, .inr (4, [.ref rc, .int (nI n), .int (nI bs)]))] t) (va_A [(x, .inr (6, [.ref bf, .ref kb, .ref to, .ref ro, .ref fw, .ref sw, .ref na, .ref wo])), (ro, .inr (4, [.ref rc, .int (nI n), .int (nI bs)]))] sz)) 0 0 (va_A [(x, .inr (6, [.ref bf, .ref kb, .ref to, .ref ro, .ref fw, .ref sw, .ref na, .ref wo])), (ro, .inr (4, [.ref rc, .int (nI n), .int (nI bs)]))] sz) := by
  refine Met.ofW (cc := cX7_count) (maxL := 2) (ret := (some .int)) (by decide) rfl ?_
  intro p e s m args below meth c s₁ B9 hml hv
  obtain ⟨rfl, hsz, ⟨hP, hK, hD0⟩, hE⟩ := hv
  have hx := B9.exec
  have hb := B9.bytes
  have hr := B9.returns
  have hts := atoms_spec (ws := wsX7_count) B9.pre
  have hown : s.vm.findClass RX7 = some m.cls := findClass_of_methodNamed B9.named
  have hlocks := B9.notSynchronized
  subst hsz
  have hD := hD0.self (sz := s.heap.size)
  generalize hAe : va_A [(x, .inr (6, [.ref bf, .ref kb, .ref to, .ref ro, .ref fw, .ref sw, .ref na, .ref wo])), (ro, .inr (4, [.ref rc, .int (nI n), .int (nI bs)]))] s.heap.size = A at hD hE ⊢
  have hA : ∀ q : Nat, s.heap.size ≤ q → A q := fun q h => by rw [← hAe]; exact Or.inr h
  have hS : va_S A s.heap s.heap [] := va_S.rf
  have hl := lv_entry ([.ref x, .int (nI 1)]) (n := 2) (Nat.le_of_ble_eq_true rfl)
  rw [lg_entry_eq]
  generalize (lg_sl ([.ref x, .int (nI 1)]) ++ List.replicate (2 - (lg_sl ([.ref x, .int (nI 1)])).length) Slot.unset).toArray = ls at hl ⊢
  have hl : lv_has ls 2 [(0, .ref x), (1, .int (nI 1))] := hl
  refine lv_iload_n hx hb dX7_count_0 rfl (lv_at hl 1 rfl) ?_
  refine lv_tableIn (off := 43) (tgt := 44) hx hb dX7_count_1 (by decide) (by decide) (by decide) (by decide) ?_
  refine lv_aload_n hx hb dX7_count_44 rfl (lv_at hl 0 rfl) ?_
  refine gv_get (own := RX7) (D := (dC, dI)) (ci := 6) (C := RX7) (T := TX7) (N := 8) (v := .ref ro) hx hb hts (by decide +kernel) hown hK hP 0 rfl rfl 3 (by decide) (hts (.fieldLink RX7 25 "NumeralCipher" "row" "LNumeralCipher$Row;") (by decide +kernel)) rfl rfl dX7_count_45 ?_
  refine gv_getN (own := RX7) (D := (dC, dI)) (ci := 4) (C := RX4) (T := TX4) (N := 3) (v := .int (nI bs)) hx hb hts (by decide +kernel) hown hK hP 1 rfl rfl 2 (by decide) (hE.nest (.fieldLinkNest "NumeralCipher" 114 "NumeralCipher$Row" "base" "I" "NumeralCipher") (by decide +kernel)) rfl rfl dX7_count_48 ?_
  exact W.iret (v := (nI bs)) hx hb hr (fun t ht hW => ⟨⟨_, (), rfl, rfl, gB_end ht hW hP hK hD⟩, hS.F ht⟩) hS.2.2 dX7_count_51

set_option maxHeartbeats 4000000 in
set_option maxRecDepth 100000 in
/-- the class, count: 2 -/
theorem c_X7_count_2 (l : Launch) (dC : Nat → ClassId) (dI : Nat → Nat → Nat) (cI : ClassId) (tS : Nat) (sz : Nat) (x : Nat) (bf : Nat) (kb : Nat) (to : Nat) (ro : Nat) (fw : Nat) (sw : Nat) (na : Nat) (wo : Nat) (kc : Nat) (kn : Nat) : Met l yX7_count wsX7_count ({ frames := 0, cells := 0, slots := 0, locals := 0 }) (gPe dC dI cI tS [.ref x, .int (nI 2)] [(x, .inr (6, [.ref bf, .ref kb, .ref to, .ref ro, .ref fw, .ref sw, .ref na, .ref wo])), (kb, .inr (1, [.ref kc, .int (nI kn)]))] sz) (va_Qi (fun (r : Int32) (_u : Unit) => r = (nI kn)) (fun _u t => gB dC dI cI (va_A [(x, .inr (6, [.ref bf, .ref kb, .ref to, .ref ro, .ref fw, .ref sw, .ref na, .ref wo])), (kb, .inr (1, [.ref kc, .int (nI kn)]))] sz) [(x, .inr (6, [.ref bf, .ref kb, .ref to, .ref ro, .ref fw, .ref sw, .ref na, .ref wo])), (kb, .inr (1, [.ref kc, .int (nI kn)]))] t) (va_A [(x, .inr (6, [.ref bf, .ref kb, .ref to, .ref ro, .ref fw, .ref sw, .ref na, .ref wo])), (kb, .inr (1, [.ref kc, .int (nI kn)]))] sz)) 0 0 (va_A [(x, .inr (6, [.ref bf, .ref kb, .ref to, .ref ro, .ref fw, .ref sw, .ref na, .ref wo])), (kb, .inr (1, [.ref kc, .int (nI kn)]))] sz) := by
  refine Met.ofW (cc := cX7_count) (maxL := 2) (ret := (some .int)) (by decide) rfl ?_
  intro p e s m args below meth c s₁ B9 hml hv
  obtain ⟨rfl, hsz, ⟨hP, hK, hD0⟩, hE⟩ := hv
  have hx := B9.exec
  have hb := B9.bytes
  have hr := B9.returns
  have hts := atoms_spec (ws := wsX7_count) B9.pre
  have hown : s.vm.findClass RX7 = some m.cls := findClass_of_methodNamed B9.named
  have hlocks := B9.notSynchronized
  subst hsz
  have hD := hD0.self (sz := s.heap.size)
  generalize hAe : va_A [(x, .inr (6, [.ref bf, .ref kb, .ref to, .ref ro, .ref fw, .ref sw, .ref na, .ref wo])), (kb, .inr (1, [.ref kc, .int (nI kn)]))] s.heap.size = A at hD hE ⊢
  have hA : ∀ q : Nat, s.heap.size ≤ q → A q := fun q h => by rw [← hAe]; exact Or.inr h
  have hS : va_S A s.heap s.heap [] := va_S.rf
  have hl := lv_entry ([.ref x, .int (nI 2)]) (n := 2) (Nat.le_of_ble_eq_true rfl)
  rw [lg_entry_eq]
  generalize (lg_sl ([.ref x, .int (nI 2)]) ++ List.replicate (2 - (lg_sl ([.ref x, .int (nI 2)])).length) Slot.unset).toArray = ls at hl ⊢
  have hl : lv_has ls 2 [(0, .ref x), (1, .int (nI 2))] := hl
  refine lv_iload_n hx hb dX7_count_0 rfl (lv_at hl 1 rfl) ?_
  refine lv_tableIn (off := 51) (tgt := 52) hx hb dX7_count_1 (by decide) (by decide) (by decide) (by decide) ?_
  refine lv_aload_n hx hb dX7_count_52 rfl (lv_at hl 0 rfl) ?_
  refine gv_get (own := RX7) (D := (dC, dI)) (ci := 6) (C := RX7) (T := TX7) (N := 8) (v := .ref kb) hx hb hts (by decide +kernel) hown hK hP 0 rfl rfl 1 (by decide) (hts (.fieldLink RX7 16 "NumeralCipher" "keyBytes" "LNumeralCipher$Bytes;") (by decide +kernel)) rfl rfl dX7_count_53 ?_
  refine gv_getN (own := RX7) (D := (dC, dI)) (ci := 1) (C := RX1) (T := TX1) (N := 2) (v := .int (nI kn)) hx hb hts (by decide +kernel) hown hK hP 1 rfl rfl 1 (by decide) (hE.nest (.fieldLinkNest "NumeralCipher" 54 "NumeralCipher$Bytes" "size" "I" "NumeralCipher") (by decide +kernel)) rfl rfl dX7_count_56 ?_
  exact W.iret (v := (nI kn)) hx hb hr (fun t ht hW => ⟨⟨_, (), rfl, rfl, gB_end ht hW hP hK hD⟩, hS.F ht⟩) hS.2.2 dX7_count_59

set_option maxHeartbeats 4000000 in
set_option maxRecDepth 100000 in
/-- the class, count: 3 -/
theorem c_X7_count_3 (l : Launch) (dC : Nat → ClassId) (dI : Nat → Nat → Nat) (cI : ClassId) (tS : Nat) (sz : Nat) (x : Nat) (bf : Nat) (kb : Nat) (to : Nat) (ro : Nat) (fw : Nat) (sw : Nat) (na : Nat) (wo : Nat) (tc : Nat) (tn : Nat) : Met l yX7_count wsX7_count ({ frames := 0, cells := 0, slots := 0, locals := 0 }) (gPe dC dI cI tS [.ref x, .int (nI 3)] [(x, .inr (6, [.ref bf, .ref kb, .ref to, .ref ro, .ref fw, .ref sw, .ref na, .ref wo])), (to, .inr (1, [.ref tc, .int (nI tn)]))] sz) (va_Qi (fun (r : Int32) (_u : Unit) => r = (nI tn)) (fun _u t => gB dC dI cI (va_A [(x, .inr (6, [.ref bf, .ref kb, .ref to, .ref ro, .ref fw, .ref sw, .ref na, .ref wo])), (to, .inr (1, [.ref tc, .int (nI tn)]))] sz) [(x, .inr (6, [.ref bf, .ref kb, .ref to, .ref ro, .ref fw, .ref sw, .ref na, .ref wo])), (to, .inr (1, [.ref tc, .int (nI tn)]))] t) (va_A [(x, .inr (6, [.ref bf, .ref kb, .ref to, .ref ro, .ref fw, .ref sw, .ref na, .ref wo])), (to, .inr (1, [.ref tc, .int (nI tn)]))] sz)) 0 0 (va_A [(x, .inr (6, [.ref bf, .ref kb, .ref to, .ref ro, .ref fw, .ref sw, .ref na, .ref wo])), (to, .inr (1, [.ref tc, .int (nI tn)]))] sz) := by
  refine Met.ofW (cc := cX7_count) (maxL := 2) (ret := (some .int)) (by decide) rfl ?_
  intro p e s m args below meth c s₁ B9 hml hv
  obtain ⟨rfl, hsz, ⟨hP, hK, hD0⟩, hE⟩ := hv
  have hx := B9.exec
  have hb := B9.bytes
  have hr := B9.returns
  have hts := atoms_spec (ws := wsX7_count) B9.pre
  have hown : s.vm.findClass RX7 = some m.cls := findClass_of_methodNamed B9.named
  have hlocks := B9.notSynchronized
  subst hsz
  have hD := hD0.self (sz := s.heap.size)
  generalize hAe : va_A [(x, .inr (6, [.ref bf, .ref kb, .ref to, .ref ro, .ref fw, .ref sw, .ref na, .ref wo])), (to, .inr (1, [.ref tc, .int (nI tn)]))] s.heap.size = A at hD hE ⊢
  have hA : ∀ q : Nat, s.heap.size ≤ q → A q := fun q h => by rw [← hAe]; exact Or.inr h
  have hS : va_S A s.heap s.heap [] := va_S.rf
  have hl := lv_entry ([.ref x, .int (nI 3)]) (n := 2) (Nat.le_of_ble_eq_true rfl)
  rw [lg_entry_eq]
  generalize (lg_sl ([.ref x, .int (nI 3)]) ++ List.replicate (2 - (lg_sl ([.ref x, .int (nI 3)])).length) Slot.unset).toArray = ls at hl ⊢
  have hl : lv_has ls 2 [(0, .ref x), (1, .int (nI 3))] := hl
  refine lv_iload_n hx hb dX7_count_0 rfl (lv_at hl 1 rfl) ?_
  refine lv_tableIn (off := 59) (tgt := 60) hx hb dX7_count_1 (by decide) (by decide) (by decide) (by decide) ?_
  refine lv_aload_n hx hb dX7_count_60 rfl (lv_at hl 0 rfl) ?_
  refine gv_get (own := RX7) (D := (dC, dI)) (ci := 6) (C := RX7) (T := TX7) (N := 8) (v := .ref to) hx hb hts (by decide +kernel) hown hK hP 0 rfl rfl 2 (by decide) (hts (.fieldLink RX7 19 "NumeralCipher" "tweakBytes" "LNumeralCipher$Bytes;") (by decide +kernel)) rfl rfl dX7_count_61 ?_
  refine gv_getN (own := RX7) (D := (dC, dI)) (ci := 1) (C := RX1) (T := TX1) (N := 2) (v := .int (nI tn)) hx hb hts (by decide +kernel) hown hK hP 1 rfl rfl 1 (by decide) (hE.nest (.fieldLinkNest "NumeralCipher" 54 "NumeralCipher$Bytes" "size" "I" "NumeralCipher") (by decide +kernel)) rfl rfl dX7_count_64 ?_
  exact W.iret (v := (nI tn)) hx hb hr (fun t ht hW => ⟨⟨_, (), rfl, rfl, gB_end ht hW hP hK hD⟩, hS.F ht⟩) hS.2.2 dX7_count_67

set_option maxHeartbeats 4000000 in
set_option maxRecDepth 100000 in
/-- the class, count: 4 -/
theorem c_X7_count_4 (l : Launch) (dC : Nat → ClassId) (dI : Nat → Nat → Nat) (cI : ClassId) (tS : Nat) (sz : Nat) (x : Nat) (bf : Nat) (kb : Nat) (to : Nat) (ro : Nat) (fw : Nat) (sw : Nat) (na : Nat) (wo : Nat) (bc : Nat) (bn : Nat) : Met l yX7_count wsX7_count ({ frames := 0, cells := 0, slots := 0, locals := 0 }) (gPe dC dI cI tS [.ref x, .int (nI 4)] [(x, .inr (6, [.ref bf, .ref kb, .ref to, .ref ro, .ref fw, .ref sw, .ref na, .ref wo])), (bf, .inr (1, [.ref bc, .int (nI bn)]))] sz) (va_Qi (fun (r : Int32) (_u : Unit) => r = (nI bn)) (fun _u t => gB dC dI cI (va_A [(x, .inr (6, [.ref bf, .ref kb, .ref to, .ref ro, .ref fw, .ref sw, .ref na, .ref wo])), (bf, .inr (1, [.ref bc, .int (nI bn)]))] sz) [(x, .inr (6, [.ref bf, .ref kb, .ref to, .ref ro, .ref fw, .ref sw, .ref na, .ref wo])), (bf, .inr (1, [.ref bc, .int (nI bn)]))] t) (va_A [(x, .inr (6, [.ref bf, .ref kb, .ref to, .ref ro, .ref fw, .ref sw, .ref na, .ref wo])), (bf, .inr (1, [.ref bc, .int (nI bn)]))] sz)) 0 0 (va_A [(x, .inr (6, [.ref bf, .ref kb, .ref to, .ref ro, .ref fw, .ref sw, .ref na, .ref wo])), (bf, .inr (1, [.ref bc, .int (nI bn)]))] sz) := by
  refine Met.ofW (cc := cX7_count) (maxL := 2) (ret := (some .int)) (by decide) rfl ?_
  intro p e s m args below meth c s₁ B9 hml hv
  obtain ⟨rfl, hsz, ⟨hP, hK, hD0⟩, hE⟩ := hv
  have hx := B9.exec
  have hb := B9.bytes
  have hr := B9.returns
  have hts := atoms_spec (ws := wsX7_count) B9.pre
  have hown : s.vm.findClass RX7 = some m.cls := findClass_of_methodNamed B9.named
  have hlocks := B9.notSynchronized
  subst hsz
  have hD := hD0.self (sz := s.heap.size)
  generalize hAe : va_A [(x, .inr (6, [.ref bf, .ref kb, .ref to, .ref ro, .ref fw, .ref sw, .ref na, .ref wo])), (bf, .inr (1, [.ref bc, .int (nI bn)]))] s.heap.size = A at hD hE ⊢
  have hA : ∀ q : Nat, s.heap.size ≤ q → A q := fun q h => by rw [← hAe]; exact Or.inr h
  have hS : va_S A s.heap s.heap [] := va_S.rf
  have hl := lv_entry ([.ref x, .int (nI 4)]) (n := 2) (Nat.le_of_ble_eq_true rfl)
  rw [lg_entry_eq]
  generalize (lg_sl ([.ref x, .int (nI 4)]) ++ List.replicate (2 - (lg_sl ([.ref x, .int (nI 4)])).length) Slot.unset).toArray = ls at hl ⊢
  have hl : lv_has ls 2 [(0, .ref x), (1, .int (nI 4))] := hl
  refine lv_iload_n hx hb dX7_count_0 rfl (lv_at hl 1 rfl) ?_
  refine lv_tableIn (off := 67) (tgt := 68) hx hb dX7_count_1 (by decide) (by decide) (by decide) (by decide) ?_
  refine lv_aload_n hx hb dX7_count_68 rfl (lv_at hl 0 rfl) ?_
  refine gv_get (own := RX7) (D := (dC, dI)) (ci := 6) (C := RX7) (T := TX7) (N := 8) (v := .ref bf) hx hb hts (by decide +kernel) hown hK hP 0 rfl rfl 0 (by decide) (hts (.fieldLink RX7 10 "NumeralCipher" "buffer" "LNumeralCipher$Bytes;") (by decide +kernel)) rfl rfl dX7_count_69 ?_
  refine gv_getN (own := RX7) (D := (dC, dI)) (ci := 1) (C := RX1) (T := TX1) (N := 2) (v := .int (nI bn)) hx hb hts (by decide +kernel) hown hK hP 1 rfl rfl 1 (by decide) (hE.nest (.fieldLinkNest "NumeralCipher" 54 "NumeralCipher$Bytes" "size" "I" "NumeralCipher") (by decide +kernel)) rfl rfl dX7_count_72 ?_
  exact W.iret (v := (nI bn)) hx hb hr (fun t ht hW => ⟨⟨_, (), rfl, rfl, gB_end ht hW hP hK hD⟩, hS.F ht⟩) hS.2.2 dX7_count_75
