set_option maxHeartbeats 4000000 in
set_option maxRecDepth 100000 in
/-- type: ok -/
theorem c_X8_type_ok (l : Launch) (dC : Nat → ClassId) (dI : Nat → Nat → Nat) (cI : ClassId) (sz : Nat) (mo : Nat) (abuf : Nat) (akey : Nat) (atwk : Nat) (arow : Nat) (abox : Nat) (awrd : Nat) (ablk : Nat) (amov : Nat) (ahA : Nat) (ahB : Nat) (ahC : Nat) (anum : Nat) (amsg : Nat) (astr : Nat) (th : Nat) (by_ : Nat) (ks : Nat) (ts : Nat) (rx : Nat) (mn : Nat) (rd : Nat) (za : Nat) (zb : Nat) (V9 : Nat) (n : Nat) (b0 : Nat → Nat) (hV : V9 < 18446744073709551616) (hn1 : 1 ≤ n) (hn2 : n ≤ 8) (hbn : by_ + n ≤ 64) : Met l yX8_type wsX8_type ({ frames := 1, cells := 0, slots := 0, locals := 25 }) (gPc dC dI cI [.ref mo, .long (lN V9), .int (nI n)] [(mo, .inr (7, [.int (nI th), .int (nI by_), .ref abuf, .int (nI ks), .ref akey, .int (nI ts), .ref atwk, .int (nI rx), .int (nI mn), .ref arow, .ref abox, .ref awrd, .int (nI rd), .ref ablk, .ref amov, .int (nI za), .int (nI zb), .ref ahA, .ref ahB, .ref ahC, .ref anum, .ref amsg, .ref astr])), (abuf, .inl (cI, 64, .inl (gA b0)))] sz) (va_Qi (fun (r : Int32) (u : (Nat → Nat)) => r = (nI (by_ + n)) ∧ (∀ q, q < 64 → u q = tyF V9 by_ n b0 q)) (fun u t => gB dC dI cI (va_A [(mo, .inr (7, [.int (nI th), .int (nI by_), .ref abuf, .int (nI ks), .ref akey, .int (nI ts), .ref atwk, .int (nI rx), .int (nI mn), .ref arow, .ref abox, .ref awrd, .int (nI rd), .ref ablk, .ref amov, .int (nI za), .int (nI zb), .ref ahA, .ref ahB, .ref ahC, .ref anum, .ref amsg, .ref astr])), (abuf, .inl (cI, 64, .inl (gA b0)))] sz) [(mo, .inr (7, [.int (nI 0), .int (nI (by_ + n)), .ref abuf, .int (nI ks), .ref akey, .int (nI ts), .ref atwk, .int (nI rx), .int (nI mn), .ref arow, .ref abox, .ref awrd, .int (nI rd), .ref ablk, .ref amov, .int (nI za), .int (nI zb), .ref ahA, .ref ahB, .ref ahC, .ref anum, .ref amsg, .ref astr])), (abuf, .inl (cI, 64, .inl (gA u)))] t) (va_A [(mo, .inr (7, [.int (nI th), .int (nI by_), .ref abuf, .int (nI ks), .ref akey, .int (nI ts), .ref atwk, .int (nI rx), .int (nI mn), .ref arow, .ref abox, .ref awrd, .int (nI rd), .ref ablk, .ref amov, .int (nI za), .int (nI zb), .ref ahA, .ref ahB, .ref ahC, .ref anum, .ref amsg, .ref astr])), (abuf, .inl (cI, 64, .inl (gA b0)))] sz)) 0 0 (va_A [(mo, .inr (7, [.int (nI th), .int (nI by_), .ref abuf, .int (nI ks), .ref akey, .int (nI ts), .ref atwk, .int (nI rx), .int (nI mn), .ref arow, .ref abox, .ref awrd, .int (nI rd), .ref ablk, .ref amov, .int (nI za), .int (nI zb), .ref ahA, .ref ahB, .ref ahC, .ref anum, .ref amsg, .ref astr])), (abuf, .inl (cI, 64, .inl (gA b0)))] sz) := by
  refine Met.ofW (cc := cX8_type) (maxL := 5) (ret := (some .int)) (by decide) rfl ?_
  intro p e s m args below meth c s₁ B9 hml hv
  obtain ⟨rfl, hsz, ⟨hP, hK, hD0⟩⟩ := hv
  have hx := B9.exec
  have hb := B9.bytes
  have hr := B9.returns
  have hts := atoms_spec (ws := wsX8_type) B9.pre
  have hown : s.vm.findClass RX8 = some m.cls := findClass_of_methodNamed B9.named
  have hlocks := B9.notSynchronized
  subst hsz
  have hD := hD0.self (sz := s.heap.size)
  generalize hAe : va_A [(mo, .inr (7, [.int (nI th), .int (nI by_), .ref abuf, .int (nI ks), .ref akey, .int (nI ts), .ref atwk, .int (nI rx), .int (nI mn), .ref arow, .ref abox, .ref awrd, .int (nI rd), .ref ablk, .ref amov, .int (nI za), .int (nI zb), .ref ahA, .ref ahB, .ref ahC, .ref anum, .ref amsg, .ref astr])), (abuf, .inl (cI, 64, .inl (gA b0)))] s.heap.size = A at hD ⊢
  have hA : ∀ q : Nat, s.heap.size ≤ q → A q := fun q h => by rw [← hAe]; exact Or.inr h
  have hS : va_S A s.heap s.heap [] := va_S.rf
  have hl := lv_entry ([.ref mo, .long (lN V9), .int (nI n)]) (n := 5) (Nat.le_of_ble_eq_true rfl)
  rw [lg_entry_eq]
  generalize (lg_sl ([.ref mo, .long (lN V9), .int (nI n)]) ++ List.replicate (5 - (lg_sl ([.ref mo, .long (lN V9), .int (nI n)])).length) Slot.unset).toArray = ls at hl ⊢
  have hl : lv_has ls 5 [(0, .ref mo), (1, .long (lN V9)), (3, .int (nI n))] := hl
  refine lv_aload_n hx hb dX8_type_0 rfl (lv_at hl 0 rfl) ?_
  refine lv_iconst (v := nI 0) hx hb dX8_type_1 (by decide) ?_
  refine gv_put (own := RX8) (D := (dC, dI)) (ci := 7) (C := RX8) (T := TX8) (N := 23) (ws' := [(mo, .inr (7, [.int (nI 0), .int (nI by_), .ref abuf, .int (nI ks), .ref akey, .int (nI ts), .ref atwk, .int (nI rx), .int (nI mn), .ref arow, .ref abox, .ref awrd, .int (nI rd), .ref ablk, .ref amov, .int (nI za), .int (nI zb), .ref ahA, .ref ahB, .ref ahC, .ref anum, .ref amsg, .ref astr])), (abuf, .inl (cI, 64, .inl (gA b0)))]) hx hb hts (by decide +kernel) tyX8 tyX8_ok nmX8 hown hK hP hD hS 0 rfl rfl 0 (by decide) (hts (.fieldLink RX8 63 "NumeralCipherModel" "thrown" "I") (by decide +kernel)) rfl rfl (by decide +kernel) (Nat.le_of_ble_eq_true rfl) rfl dX8_type_2 (fun H locs hP hD hS => ?_)
  refine lv_aload_n hx hb dX8_type_5 rfl (lv_at hl 0 rfl) ?_
  refine lv_iload_n hx hb dX8_type_6 rfl (lv_at hl 2 rfl) ?_
  refine lv_i2l (v := lN n) hx hb dX8_type_7 (nI_l (by omega)) ?_
  refine lv_lconst (v := lN 1) hx hb dX8_type_8 (by decide) ?_
  refine lv_ldc2 (own := RX8) (v := (8 : Int64)) hx hb hown (hts (.constantLong RX8 131 (8)) (by decide +kernel)) dX8_type_9 ?_
  refine gv_topl (y := lN 8) (by decide +kernel) ?_
  refine gv_callR (W.runS (As := [.long (lN n), .long (lN 1), .long (lN 8)]) (rest := [.ref mo]) ⟨hx, hb, hml, hown, hts⟩ (c_X8_in_1 l (lN n) (lN 1) (lN 8) ((in_nat (v := n) (a := 1) (b := 8) (by omega) (by omega) (by omega)).1) ((in_nat (v := n) (a := 1) (b := 8) (by omega) (by omega) (by omega)).2)) (va_cwS 3 hts gX8_type_X8_in rfl rfl rfl (by decide +kernel) ⟨Nat.le_of_ble_eq_true rfl, Nat.le_of_ble_eq_true rfl⟩) ⟨fun a U g mk q => q, fun U hU hW => ⟨rfl, trivial⟩⟩ rfl rfl hl.1 rfl (lv_room (Nat.le_of_ble_eq_true rfl)) dX8_type_12 ⟨Nat.zero_le _, Nat.zero_le _⟩) ?_
  refine gv_if_ne (tgt := 22) hx hb dX8_type_15 (by decide) (by omega) (fun c_15 => ?_) (fun c_15 => ?_)
  ·
    refine lv_iconst (v := nI 0) hx hb dX8_type_22 (by decide) ?_
    refine lv_iconst (v := nI 1) hx hb dX8_type_23 (by decide) ?_
    have hPc := hP.sub (ws' := [(mo, .inr (7, [.int (nI 0), .int (nI by_), .ref abuf, .int (nI ks), .ref akey, .int (nI ts), .ref atwk, .int (nI rx), .int (nI mn), .ref arow, .ref abox, .ref awrd, .int (nI rd), .ref ablk, .ref amov, .int (nI za), .int (nI zb), .ref ahA, .ref ahB, .ref ahC, .ref anum, .ref amsg, .ref astr]))]) [0] rfl
    have hDc := hD.sub (ws' := [(mo, .inr (7, [.int (nI 0), .int (nI by_), .ref abuf, .int (nI ks), .ref akey, .int (nI ts), .ref atwk, .int (nI rx), .int (nI mn), .ref arow, .ref abox, .ref awrd, .int (nI rd), .ref ablk, .ref amov, .int (nI za), .int (nI zb), .ref ahA, .ref ahB, .ref ahC, .ref anum, .ref amsg, .ref astr]))]) [0] (by decide) rfl
    refine gv_callR (W.runV (As := [.int (nI 0), .int (nI 1)]) (rest := []) ⟨hx, hb, hml, hown, hts⟩ (c_X8_refuses_0 l dC dI cI H.size mo abuf akey atwk arow abox awrd ablk amov ahA ahB ahC anum amsg astr 0 by_ ks ts rx mn rd za zb 1 ) (cwV 2 hts gX8_type_X8_refuses rfl rfl rfl (by decide +kernel) ⟨Nat.le_of_ble_eq_true rfl, Nat.le_of_ble_eq_true rfl⟩) ⟨gPc_blind, va_recv hK hPc (ci := 7) (q0 := 0) rfl rfl, gPc_pre hPc hK hDc⟩ rfl rfl hl.1 rfl (lv_room (Nat.le_of_ble_eq_true rfl)) dX8_type_24 ⟨Nat.zero_le _, Nat.zero_le _⟩) ?_
    clear hPc hDc
    refine gv_if_ne (tgt := 54) hx hb dX8_type_27 (by decide) (by omega) (fun c_27 => ?_) (fun c_27 => ?_)
    ·
      exact absurd c_27 (by decide)
    ·
      refine lv_aload_n hx hb dX8_type_30 rfl (lv_at hl 0 rfl) ?_
      refine lv_aload_n hx hb dX8_type_31 rfl (lv_at hl 0 rfl) ?_
      refine gv_get (own := RX8) (D := (dC, dI)) (ci := 7) (C := RX8) (T := TX8) (N := 23) (v := .int (nI by_)) hx hb hts (by decide +kernel) hown hK hP 0 rfl rfl 1 (by decide) (hts (.fieldLink RX8 141 "NumeralCipherModel" "bytes" "I") (by decide +kernel)) rfl rfl dX8_type_32 ?_
      refine lv_iload_n hx hb dX8_type_35 rfl (lv_at hl 2 rfl) ?_
      refine gv_iadd (r := by_ + n) hx hb dX8_type_36 rfl ?_
      refine lv_bipush (v := nI 64) hx hb dX8_type_37 (by decide) ?_
      refine gv_icmp_le (tgt := 46) hx hb dX8_type_39 (by decide) (by omega) (by omega) (fun c_39 => ?_) (fun c_39 => ?_)
      ·
        refine lv_iconst (v := nI 0) hx hb dX8_type_46 (by decide) ?_
        refine lv_iconst (v := nI 2) hx hb dX8_type_47 (by decide) ?_
        have hPc := hP.sub (ws' := [(mo, .inr (7, [.int (nI 0), .int (nI by_), .ref abuf, .int (nI ks), .ref akey, .int (nI ts), .ref atwk, .int (nI rx), .int (nI mn), .ref arow, .ref abox, .ref awrd, .int (nI rd), .ref ablk, .ref amov, .int (nI za), .int (nI zb), .ref ahA, .ref ahB, .ref ahC, .ref anum, .ref amsg, .ref astr]))]) [0] rfl
        have hDc := hD.sub (ws' := [(mo, .inr (7, [.int (nI 0), .int (nI by_), .ref abuf, .int (nI ks), .ref akey, .int (nI ts), .ref atwk, .int (nI rx), .int (nI mn), .ref arow, .ref abox, .ref awrd, .int (nI rd), .ref ablk, .ref amov, .int (nI za), .int (nI zb), .ref ahA, .ref ahB, .ref ahC, .ref anum, .ref amsg, .ref astr]))]) [0] (by decide) rfl
        refine gv_callR (W.runV (As := [.int (nI 0), .int (nI 2)]) (rest := []) ⟨hx, hb, hml, hown, hts⟩ (c_X8_refuses_0 l dC dI cI H.size mo abuf akey atwk arow abox awrd ablk amov ahA ahB ahC anum amsg astr 0 by_ ks ts rx mn rd za zb 2 ) (cwV 2 hts gX8_type_X8_refuses rfl rfl rfl (by decide +kernel) ⟨Nat.le_of_ble_eq_true rfl, Nat.le_of_ble_eq_true rfl⟩) ⟨gPc_blind, va_recv hK hPc (ci := 7) (q0 := 0) rfl rfl, gPc_pre hPc hK hDc⟩ rfl rfl hl.1 rfl (lv_room (Nat.le_of_ble_eq_true rfl)) dX8_type_48 ⟨Nat.zero_le _, Nat.zero_le _⟩) ?_
        clear hPc hDc
        refine gv_if_eq (tgt := 56) hx hb dX8_type_51 (by decide) (by omega) (fun c_51 => ?_) (fun c_51 => ?_)
        ·
          refine lv_iload_n hx hb dX8_type_56 rfl (lv_at hl 2 rfl) ?_
          refine lv_iconst (v := nI 1) hx hb dX8_type_57 (by decide) ?_
          refine lv_isub hx hb dX8_type_58 ?_
          refine gv_top (y := nI n - 1) rfl ?_
          refine lv_istore (lv' := [(4, .int (nI n - 1)), (0, .ref mo), (1, .long (lN V9)), (3, .int (nI n))]) hx hb dX8_type_59 hl (by decide) rfl (fun ls hl => ?_)
          refine gw_lab (G := fun R args Q => ∀ (n9_61 : Nat) (j : Nat) (g : Nat → Nat), n9_61 = j → (j ≤ n) → (∀ q, q < 64 → g q = if by_ ≤ q ∧ q < by_ + (n - j) then byt V9 (n - 1 - (q - by_)) else b0 q) → ∀ (H : Heap) (locs : List Loc), va_P (dC, dI) vwCl [(mo, .inr (7, [.int (nI 0), .int (nI (by_ + (n - j))), .ref abuf, .int (nI ks), .ref akey, .int (nI ts), .ref atwk, .int (nI rx), .int (nI mn), .ref arow, .ref abox, .ref awrd, .int (nI rd), .ref ablk, .ref amov, .int (nI za), .int (nI zb), .ref ahA, .ref ahB, .ref ahC, .ref anum, .ref amsg, .ref astr])), (abuf, .inl (cI, 64, .inl (gA g)))] H → va_D A [(mo, .inr (7, [.int (nI 0), .int (nI (by_ + (n - j))), .ref abuf, .int (nI ks), .ref akey, .int (nI ts), .ref atwk, .int (nI rx), .int (nI mn), .ref arow, .ref abox, .ref awrd, .int (nI rd), .ref ablk, .ref amov, .int (nI za), .int (nI zb), .ref ahA, .ref ahB, .ref ahC, .ref anum, .ref amsg, .ref astr])), (abuf, .inl (cI, 64, .inl (gA g)))] → va_S A s.heap H locs → ∀ (ls : Array Slot), lv_has ls 5 [(4, .int (nI j - 1)), (0, .ref mo), (1, .long (lN V9)), (3, .int (nI n))] → W p l e R s m args below meth c H locs 0 0 Q (F0 m 61 ls [])) ?_ (fun L61 => ?_)
          ·
            intro n9_61
            induction n9_61 using Nat.strongRecOn with
            | ind n9_61 ih9_61 =>
              intro j g hmu9_61 hj hg H locs hP hD hS ls hl
              rcases j with _ | j
              ·
                refine lv_iload hx hb dX8_type_61 (lv_at hl 0 rfl) ?_
                refine lv_if_lt (tgt := 103) hx hb dX8_type_63 (by decide) (fun _ => ?_) (fun c9 => absurd (by decide) c9)
                refine lv_aload_n hx hb dX8_type_103 rfl (lv_at hl 1 rfl) ?_
                refine gv_get (own := RX8) (D := (dC, dI)) (ci := 7) (C := RX8) (T := TX8) (N := 23) (v := .int (nI (by_ + (n - 0)))) hx hb hts (by decide +kernel) hown hK hP 0 rfl rfl 1 (by decide) (hts (.fieldLink RX8 141 "NumeralCipherModel" "bytes" "I") (by decide +kernel)) rfl rfl dX8_type_104 ?_
                refine gv_top (y := (nI (by_ + n))) (by rw [Nat.sub_zero]) ?_
                exact W.iret (v := (nI (by_ + n))) hx hb hr (fun t ht hW => ⟨⟨_, (g), rfl, ⟨rfl, (ty_e hg)⟩, gB_end ht hW hP hK hD⟩, hS.F ht⟩) hS.2.2 dX8_type_107
              ·
                rw [nI_pred j] at hl
                refine lv_iload hx hb dX8_type_61 (lv_at hl 0 rfl) ?_
                refine gv_if_lt (tgt := 103) hx hb dX8_type_63 (by decide) (by omega) ?_
                refine lv_aload_n hx hb dX8_type_66 rfl (lv_at hl 1 rfl) ?_
                refine gv_get (own := RX8) (D := (dC, dI)) (ci := 7) (C := RX8) (T := TX8) (N := 23) (v := .ref abuf) hx hb hts (by decide +kernel) hown hK hP 0 rfl rfl 2 (by decide) (hts (.fieldLink RX8 7 "NumeralCipherModel" "buffer" "[I") (by decide +kernel)) rfl rfl dX8_type_67 ?_
                refine lv_aload_n hx hb dX8_type_70 rfl (lv_at hl 1 rfl) ?_
                refine gv_get (own := RX8) (D := (dC, dI)) (ci := 7) (C := RX8) (T := TX8) (N := 23) (v := .int (nI (by_ + (n - (j + 1))))) hx hb hts (by decide +kernel) hown hK hP 0 rfl rfl 1 (by decide) (hts (.fieldLink RX8 141 "NumeralCipherModel" "bytes" "I") (by decide +kernel)) rfl rfl dX8_type_71 ?_
                refine lv_lload_n hx hb dX8_type_74 rfl (lv_at hl 2 rfl) ?_
                refine lv_bipush (v := nI 8) hx hb dX8_type_75 (by decide) ?_
                refine lv_iload hx hb dX8_type_77 (lv_at hl 0 rfl) ?_
                refine gv_imul (r := 8 * j) hx hb dX8_type_79 rfl ?_
                refine lv_lshr (v := (lN V9) >>> ((nI (8 * j)).toInt64 &&& 63)) hx hb dX8_type_80 rfl ?_
                refine lv_ldc2 (own := RX8) (v := (255 : Int64)) hx hb hown (hts (.constantLong RX8 77 (255)) (by decide +kernel)) dX8_type_81 ?_
                refine gv_topl (y := lN 255) (by decide +kernel) ?_
                refine lv_land hx hb dX8_type_84 ?_
                refine gv_topl (y := lN (byt V9 j)) (byt_s hV (by omega)) ?_
                refine lv_l2i (v := nI (byt V9 j)) hx hb dX8_type_85 (lN_i _) ?_
                refine gv_iast (ws' := [(mo, .inr (7, [.int (nI 0), .int (nI (by_ + (n - (j + 1)))), .ref abuf, .int (nI ks), .ref akey, .int (nI ts), .ref atwk, .int (nI rx), .int (nI mn), .ref arow, .ref abox, .ref awrd, .int (nI rd), .ref ablk, .ref amov, .int (nI za), .int (nI zb), .ref ahA, .ref ahB, .ref ahC, .ref anum, .ref amsg, .ref astr])), (abuf, .inl (cI, 64, .inl (gA (gU g (by_ + (n - (j + 1))) (byt V9 j)))))]) hx hb hK hP hD hS 1 0 rfl rfl rfl (by omega) (by omega) dX8_type_86 (fun H locs hP hD hS => ?_)
                refine lv_aload_n hx hb dX8_type_87 rfl (lv_at hl 1 rfl) ?_
                refine lv_dup hx hb dX8_type_88 rfl ?_
                refine gv_get (own := RX8) (D := (dC, dI)) (ci := 7) (C := RX8) (T := TX8) (N := 23) (v := .int (nI (by_ + (n - (j + 1))))) hx hb hts (by decide +kernel) hown hK hP 0 rfl rfl 1 (by decide) (hts (.fieldLink RX8 141 "NumeralCipherModel" "bytes" "I") (by decide +kernel)) rfl rfl dX8_type_89 ?_
                refine lv_iconst (v := nI 1) hx hb dX8_type_92 (by decide) ?_
                refine gv_iadd (r := (by_ + (n - (j + 1))) + 1) hx hb dX8_type_93 rfl ?_
                refine gv_put (own := RX8) (D := (dC, dI)) (ci := 7) (C := RX8) (T := TX8) (N := 23) (ws' := [(mo, .inr (7, [.int (nI 0), .int (nI ((by_ + (n - (j + 1))) + 1)), .ref abuf, .int (nI ks), .ref akey, .int (nI ts), .ref atwk, .int (nI rx), .int (nI mn), .ref arow, .ref abox, .ref awrd, .int (nI rd), .ref ablk, .ref amov, .int (nI za), .int (nI zb), .ref ahA, .ref ahB, .ref ahC, .ref anum, .ref amsg, .ref astr])), (abuf, .inl (cI, 64, .inl (gA (gU g (by_ + (n - (j + 1))) (byt V9 j)))))]) hx hb hts (by decide +kernel) tyX8 tyX8_ok nmX8 hown hK hP hD hS 0 rfl rfl 1 (by decide) (hts (.fieldLink RX8 141 "NumeralCipherModel" "bytes" "I") (by decide +kernel)) rfl rfl (by decide +kernel) (Nat.le_of_ble_eq_true rfl) rfl dX8_type_94 (fun H locs hP hD hS => ?_)
                refine lv_iinc (v := nI j - 1) (lv' := [(4, .int (nI j - 1)), (0, .ref mo), (1, .long (lN V9)), (3, .int (nI n))]) hx hb dX8_type_97 hl (k := 0) rfl (gz_pred1 _) (by decide) rfl (fun ls hl => ?_)
                refine lv_goto (tgt := 61) hx hb dX8_type_100 (by decide) ?_
                rw [show by_ + (n - (j + 1)) + 1 = by_ + (n - j) by omega] at hP hD
                exact ih9_61 _ (by omega) j (gU g (by_ + (n - (j + 1))) (byt V9 j)) rfl (by omega) (ty_s (by omega) hg rfl) _ _ hP hD hS _ hl
          rw [show by_ = by_ + (n - n) by omega] at hP hD
          exact L61 _ n b0 rfl (by omega) ty_0 _ _ hP hD hS _ hl
        ·
          exact absurd c_51 (by decide)
      ·
        exact absurd c_39 (by omega)
  ·
    exact absurd c_15 (by decide)

set_option maxHeartbeats 4000000 in
set_option maxRecDepth 100000 in
/-- type: b1 -/
theorem c_X8_type_b1 (l : Launch) (dC : Nat → ClassId) (dI : Nat → Nat → Nat) (cI : ClassId) (sz : Nat) (mo : Nat) (abuf : Nat) (akey : Nat) (atwk : Nat) (arow : Nat) (abox : Nat) (awrd : Nat) (ablk : Nat) (amov : Nat) (ahA : Nat) (ahB : Nat) (ahC : Nat) (anum : Nat) (amsg : Nat) (astr : Nat) (th : Nat) (by_ : Nat) (ks : Nat) (ts : Nat) (rx : Nat) (mn : Nat) (rd : Nat) (za : Nat) (zb : Nat) (V9 : Nat) (x : Int32) (hbad : x.toInt < 1 ∨ 8 < x.toInt) : Met l yX8_type wsX8_type ({ frames := 1, cells := 0, slots := 0, locals := 25 }) (gPc dC dI cI [.ref mo, .long (lN V9), .int x] [(mo, .inr (7, [.int (nI th), .int (nI by_), .ref abuf, .int (nI ks), .ref akey, .int (nI ts), .ref atwk, .int (nI rx), .int (nI mn), .ref arow, .ref abox, .ref awrd, .int (nI rd), .ref ablk, .ref amov, .int (nI za), .int (nI zb), .ref ahA, .ref ahB, .ref ahC, .ref anum, .ref amsg, .ref astr]))] sz) (va_Qi (fun (r : Int32) (_u : Unit) => r = (nI 0)) (fun _u t => gB dC dI cI (va_A [(mo, .inr (7, [.int (nI th), .int (nI by_), .ref abuf, .int (nI ks), .ref akey, .int (nI ts), .ref atwk, .int (nI rx), .int (nI mn), .ref arow, .ref abox, .ref awrd, .int (nI rd), .ref ablk, .ref amov, .int (nI za), .int (nI zb), .ref ahA, .ref ahB, .ref ahC, .ref anum, .ref amsg, .ref astr]))] sz) [(mo, .inr (7, [.int (nI 1), .int (nI by_), .ref abuf, .int (nI ks), .ref akey, .int (nI ts), .ref atwk, .int (nI rx), .int (nI mn), .ref arow, .ref abox, .ref awrd, .int (nI rd), .ref ablk, .ref amov, .int (nI za), .int (nI zb), .ref ahA, .ref ahB, .ref ahC, .ref anum, .ref amsg, .ref astr]))] t) (va_A [(mo, .inr (7, [.int (nI th), .int (nI by_), .ref abuf, .int (nI ks), .ref akey, .int (nI ts), .ref atwk, .int (nI rx), .int (nI mn), .ref arow, .ref abox, .ref awrd, .int (nI rd), .ref ablk, .ref amov, .int (nI za), .int (nI zb), .ref ahA, .ref ahB, .ref ahC, .ref anum, .ref amsg, .ref astr]))] sz)) 0 0 (va_A [(mo, .inr (7, [.int (nI th), .int (nI by_), .ref abuf, .int (nI ks), .ref akey, .int (nI ts), .ref atwk, .int (nI rx), .int (nI mn), .ref arow, .ref abox, .ref awrd, .int (nI rd), .ref ablk, .ref amov, .int (nI za), .int (nI zb), .ref ahA, .ref ahB, .ref ahC, .ref anum, .ref amsg, .ref astr]))] sz) := by
  refine Met.ofW (cc := cX8_type) (maxL := 5) (ret := (some .int)) (by decide) rfl ?_
  intro p e s m args below meth c s₁ B9 hml hv
  obtain ⟨rfl, hsz, ⟨hP, hK, hD0⟩⟩ := hv
  have hx := B9.exec
  have hb := B9.bytes
  have hr := B9.returns
  have hts := atoms_spec (ws := wsX8_type) B9.pre
  have hown : s.vm.findClass RX8 = some m.cls := findClass_of_methodNamed B9.named
  have hlocks := B9.notSynchronized
  subst hsz
  have hD := hD0.self (sz := s.heap.size)
  generalize hAe : va_A [(mo, .inr (7, [.int (nI th), .int (nI by_), .ref abuf, .int (nI ks), .ref akey, .int (nI ts), .ref atwk, .int (nI rx), .int (nI mn), .ref arow, .ref abox, .ref awrd, .int (nI rd), .ref ablk, .ref amov, .int (nI za), .int (nI zb), .ref ahA, .ref ahB, .ref ahC, .ref anum, .ref amsg, .ref astr]))] s.heap.size = A at hD ⊢
  have hA : ∀ q : Nat, s.heap.size ≤ q → A q := fun q h => by rw [← hAe]; exact Or.inr h
  have hS : va_S A s.heap s.heap [] := va_S.rf
  have hl := lv_entry ([.ref mo, .long (lN V9), .int x]) (n := 5) (Nat.le_of_ble_eq_true rfl)
  rw [lg_entry_eq]
  generalize (lg_sl ([.ref mo, .long (lN V9), .int x]) ++ List.replicate (5 - (lg_sl ([.ref mo, .long (lN V9), .int x])).length) Slot.unset).toArray = ls at hl ⊢
  have hl : lv_has ls 5 [(0, .ref mo), (1, .long (lN V9)), (3, .int x)] := hl
  refine lv_aload_n hx hb dX8_type_0 rfl (lv_at hl 0 rfl) ?_
  refine lv_iconst (v := nI 0) hx hb dX8_type_1 (by decide) ?_
  refine gv_put (own := RX8) (D := (dC, dI)) (ci := 7) (C := RX8) (T := TX8) (N := 23) (ws' := [(mo, .inr (7, [.int (nI 0), .int (nI by_), .ref abuf, .int (nI ks), .ref akey, .int (nI ts), .ref atwk, .int (nI rx), .int (nI mn), .ref arow, .ref abox, .ref awrd, .int (nI rd), .ref ablk, .ref amov, .int (nI za), .int (nI zb), .ref ahA, .ref ahB, .ref ahC, .ref anum, .ref amsg, .ref astr]))]) hx hb hts (by decide +kernel) tyX8 tyX8_ok nmX8 hown hK hP hD hS 0 rfl rfl 0 (by decide) (hts (.fieldLink RX8 63 "NumeralCipherModel" "thrown" "I") (by decide +kernel)) rfl rfl (by decide +kernel) (Nat.le_of_ble_eq_true rfl) rfl dX8_type_2 (fun H locs hP hD hS => ?_)
  refine lv_aload_n hx hb dX8_type_5 rfl (lv_at hl 0 rfl) ?_
  refine lv_iload_n hx hb dX8_type_6 rfl (lv_at hl 2 rfl) ?_
  refine lv_i2l (v := x.toInt64) hx hb dX8_type_7 rfl ?_
  refine lv_lconst (v := lN 1) hx hb dX8_type_8 (by decide) ?_
  refine lv_ldc2 (own := RX8) (v := (8 : Int64)) hx hb hown (hts (.constantLong RX8 131 (8)) (by decide +kernel)) dX8_type_9 ?_
  refine gv_topl (y := lN 8) (by decide +kernel) ?_
  refine gv_callR (W.runS (As := [.long x.toInt64, .long (lN 1), .long (lN 8)]) (rest := [.ref mo]) ⟨hx, hb, hml, hown, hts⟩ (c_X8_in_0 l x.toInt64 (lN 1) (lN 8) (in_raw (pk_lT (by decide)) (pk_lT (by decide)) (by omega))) (va_cwS 3 hts gX8_type_X8_in rfl rfl rfl (by decide +kernel) ⟨Nat.le_of_ble_eq_true rfl, Nat.le_of_ble_eq_true rfl⟩) ⟨fun a U g mk q => q, fun U hU hW => ⟨rfl, trivial⟩⟩ rfl rfl hl.1 rfl (lv_room (Nat.le_of_ble_eq_true rfl)) dX8_type_12 ⟨Nat.zero_le _, Nat.zero_le _⟩) ?_
  refine gv_if_ne (tgt := 22) hx hb dX8_type_15 (by decide) (by omega) (fun c_15 => ?_) (fun c_15 => ?_)
  ·
    exact absurd c_15 (by decide)
  ·
    refine lv_iconst (v := nI 1) hx hb dX8_type_18 (by decide) ?_
    refine lv_goto (tgt := 23) hx hb dX8_type_19 (by decide) ?_
    refine lv_iconst (v := nI 1) hx hb dX8_type_23 (by decide) ?_
    have hPc := hP.sub (ws' := [(mo, .inr (7, [.int (nI 0), .int (nI by_), .ref abuf, .int (nI ks), .ref akey, .int (nI ts), .ref atwk, .int (nI rx), .int (nI mn), .ref arow, .ref abox, .ref awrd, .int (nI rd), .ref ablk, .ref amov, .int (nI za), .int (nI zb), .ref ahA, .ref ahB, .ref ahC, .ref anum, .ref amsg, .ref astr]))]) [0] rfl
    have hDc := hD.sub (ws' := [(mo, .inr (7, [.int (nI 0), .int (nI by_), .ref abuf, .int (nI ks), .ref akey, .int (nI ts), .ref atwk, .int (nI rx), .int (nI mn), .ref arow, .ref abox, .ref awrd, .int (nI rd), .ref ablk, .ref amov, .int (nI za), .int (nI zb), .ref ahA, .ref ahB, .ref ahC, .ref anum, .ref amsg, .ref astr]))]) [0] (by decide) rfl
    have hFc := va_free (wc := [(mo, .inr (7, [.int (nI 0), .int (nI by_), .ref abuf, .int (nI ks), .ref akey, .int (nI ts), .ref atwk, .int (nI rx), .int (nI mn), .ref arow, .ref abox, .ref awrd, .int (nI rd), .ref ablk, .ref amov, .int (nI za), .int (nI zb), .ref ahA, .ref ahB, .ref ahC, .ref anum, .ref amsg, .ref astr]))]) hD hS hA [0] rfl
    refine va_calli (va_runV (As := [.int (nI 1), .int (nI 1)]) (rest := []) ⟨hx, hb, hml, hown, hts⟩ (c_X8_refuses_1 l dC dI cI H.size mo abuf akey atwk arow abox awrd ablk amov ahA ahB ahC anum amsg astr 0 by_ ks ts rx mn rd za zb 1 (by omega) (by omega)) (cwV 2 hts gX8_type_X8_refuses rfl rfl rfl (by decide +kernel) ⟨Nat.le_of_ble_eq_true rfl, Nat.le_of_ble_eq_true rfl⟩) ⟨gPc_blind, va_recv hK hPc (ci := 7) (q0 := 0) rfl rfl, gPc_pre hPc hK hDc⟩ rfl rfl hl.1 rfl (lv_room (Nat.le_of_ble_eq_true rfl)) dX8_type_24 ⟨Nat.zero_le _, Nat.zero_le _⟩) hS (fun q _ h => hFc q h) hFc (fun r9 u8 t8 H1 locs ht hvm hw hB hz1 hk1 hS => ?_)
    try dsimp only at hw hB
    obtain ⟨hP, hD⟩ := gB_join (wr := []) (w2 := [(mo, .inr (7, [.int (nI 1), .int (nI by_), .ref abuf, .int (nI ks), .ref akey, .int (nI ts), .ref atwk, .int (nI rx), .int (nI mn), .ref arow, .ref abox, .ref awrd, .int (nI rd), .ref ablk, .ref amov, .int (nI za), .int (nI zb), .ref ahA, .ref ahB, .ref ahC, .ref anum, .ref amsg, .ref astr]))]) hP hD [0] [] rfl rfl (by decide) (by decide) hk1 hFc ht hB rfl
    clear hk1 hz1 ht hB hvm hPc hDc hFc
    generalize H1 = H at hP hS ⊢
    subst hw
    refine gv_if_ne (tgt := 54) hx hb dX8_type_27 (by decide) (by omega) (fun c_27 => ?_) (fun c_27 => ?_)
    ·
      refine lv_iconst (v := nI 0) hx hb dX8_type_54 (by decide) ?_
      exact W.iret (v := (nI 0)) hx hb hr (fun t ht hW => ⟨⟨_, (), rfl, rfl, gB_end ht hW hP hK hD⟩, hS.F ht⟩) hS.2.2 dX8_type_55
    ·
      exact absurd c_27 (by decide)

set_option maxHeartbeats 4000000 in
set_option maxRecDepth 100000 in
/-- type: b2 -/
theorem c_X8_type_b2 (l : Launch) (dC : Nat → ClassId) (dI : Nat → Nat → Nat) (cI : ClassId) (sz : Nat) (mo : Nat) (abuf : Nat) (akey : Nat) (atwk : Nat) (arow : Nat) (abox : Nat) (awrd : Nat) (ablk : Nat) (amov : Nat) (ahA : Nat) (ahB : Nat) (ahC : Nat) (anum : Nat) (amsg : Nat) (astr : Nat) (th : Nat) (by_ : Nat) (ks : Nat) (ts : Nat) (rx : Nat) (mn : Nat) (rd : Nat) (za : Nat) (zb : Nat) (V9 : Nat) (n : Nat) (hn1 : 1 ≤ n) (hn2 : n ≤ 8) (hbn : 64 < by_ + n) (hb : by_ ≤ 64) : Met l yX8_type wsX8_type ({ frames := 1, cells := 0, slots := 0, locals := 25 }) (gPc dC dI cI [.ref mo, .long (lN V9), .int (nI n)] [(mo, .inr (7, [.int (nI th), .int (nI by_), .ref abuf, .int (nI ks), .ref akey, .int (nI ts), .ref atwk, .int (nI rx), .int (nI mn), .ref arow, .ref abox, .ref awrd, .int (nI rd), .ref ablk, .ref amov, .int (nI za), .int (nI zb), .ref ahA, .ref ahB, .ref ahC, .ref anum, .ref amsg, .ref astr]))] sz) (va_Qi (fun (r : Int32) (_u : Unit) => r = (nI 0)) (fun _u t => gB dC dI cI (va_A [(mo, .inr (7, [.int (nI th), .int (nI by_), .ref abuf, .int (nI ks), .ref akey, .int (nI ts), .ref atwk, .int (nI rx), .int (nI mn), .ref arow, .ref abox, .ref awrd, .int (nI rd), .ref ablk, .ref amov, .int (nI za), .int (nI zb), .ref ahA, .ref ahB, .ref ahC, .ref anum, .ref amsg, .ref astr]))] sz) [(mo, .inr (7, [.int (nI 2), .int (nI by_), .ref abuf, .int (nI ks), .ref akey, .int (nI ts), .ref atwk, .int (nI rx), .int (nI mn), .ref arow, .ref abox, .ref awrd, .int (nI rd), .ref ablk, .ref amov, .int (nI za), .int (nI zb), .ref ahA, .ref ahB, .ref ahC, .ref anum, .ref amsg, .ref astr]))] t) (va_A [(mo, .inr (7, [.int (nI th), .int (nI by_), .ref abuf, .int (nI ks), .ref akey, .int (nI ts), .ref atwk, .int (nI rx), .int (nI mn), .ref arow, .ref abox, .ref awrd, .int (nI rd), .ref ablk, .ref amov, .int (nI za), .int (nI zb), .ref ahA, .ref ahB, .ref ahC, .ref anum, .ref amsg, .ref astr]))] sz)) 0 0 (va_A [(mo, .inr (7, [.int (nI th), .int (nI by_), .ref abuf, .int (nI ks), .ref akey, .int (nI ts), .ref atwk, .int (nI rx), .int (nI mn), .ref arow, .ref abox, .ref awrd, .int (nI rd), .ref ablk, .ref amov, .int (nI za), .int (nI zb), .ref ahA, .ref ahB, .ref ahC, .ref anum, .ref amsg, .ref astr]))] sz) := by
  refine Met.ofW (cc := cX8_type) (maxL := 5) (ret := (some .int)) (by decide) rfl ?_
  intro p e s m args below meth c s₁ B9 hml hv
  obtain ⟨rfl, hsz, ⟨hP, hK, hD0⟩⟩ := hv
  have hx := B9.exec
  have hb := B9.bytes
  have hr := B9.returns
  have hts := atoms_spec (ws := wsX8_type) B9.pre
  have hown : s.vm.findClass RX8 = some m.cls := findClass_of_methodNamed B9.named
  have hlocks := B9.notSynchronized
  subst hsz
  have hD := hD0.self (sz := s.heap.size)
  generalize hAe : va_A [(mo, .inr (7, [.int (nI th), .int (nI by_), .ref abuf, .int (nI ks), .ref akey, .int (nI ts), .ref atwk, .int (nI rx), .int (nI mn), .ref arow, .ref abox, .ref awrd, .int (nI rd), .ref ablk, .ref amov, .int (nI za), .int (nI zb), .ref ahA, .ref ahB, .ref ahC, .ref anum, .ref amsg, .ref astr]))] s.heap.size = A at hD ⊢
  have hA : ∀ q : Nat, s.heap.size ≤ q → A q := fun q h => by rw [← hAe]; exact Or.inr h
  have hS : va_S A s.heap s.heap [] := va_S.rf
  have hl := lv_entry ([.ref mo, .long (lN V9), .int (nI n)]) (n := 5) (Nat.le_of_ble_eq_true rfl)
  rw [lg_entry_eq]
  generalize (lg_sl ([.ref mo, .long (lN V9), .int (nI n)]) ++ List.replicate (5 - (lg_sl ([.ref mo, .long (lN V9), .int (nI n)])).length) Slot.unset).toArray = ls at hl ⊢
  have hl : lv_has ls 5 [(0, .ref mo), (1, .long (lN V9)), (3, .int (nI n))] := hl
  refine lv_aload_n hx hb dX8_type_0 rfl (lv_at hl 0 rfl) ?_
  refine lv_iconst (v := nI 0) hx hb dX8_type_1 (by decide) ?_
  refine gv_put (own := RX8) (D := (dC, dI)) (ci := 7) (C := RX8) (T := TX8) (N := 23) (ws' := [(mo, .inr (7, [.int (nI 0), .int (nI by_), .ref abuf, .int (nI ks), .ref akey, .int (nI ts), .ref atwk, .int (nI rx), .int (nI mn), .ref arow, .ref abox, .ref awrd, .int (nI rd), .ref ablk, .ref amov, .int (nI za), .int (nI zb), .ref ahA, .ref ahB, .ref ahC, .ref anum, .ref amsg, .ref astr]))]) hx hb hts (by decide +kernel) tyX8 tyX8_ok nmX8 hown hK hP hD hS 0 rfl rfl 0 (by decide) (hts (.fieldLink RX8 63 "NumeralCipherModel" "thrown" "I") (by decide +kernel)) rfl rfl (by decide +kernel) (Nat.le_of_ble_eq_true rfl) rfl dX8_type_2 (fun H locs hP hD hS => ?_)
  refine lv_aload_n hx hb dX8_type_5 rfl (lv_at hl 0 rfl) ?_
  refine lv_iload_n hx hb dX8_type_6 rfl (lv_at hl 2 rfl) ?_
  refine lv_i2l (v := lN n) hx hb dX8_type_7 (nI_l (by omega)) ?_
  refine lv_lconst (v := lN 1) hx hb dX8_type_8 (by decide) ?_
  refine lv_ldc2 (own := RX8) (v := (8 : Int64)) hx hb hown (hts (.constantLong RX8 131 (8)) (by decide +kernel)) dX8_type_9 ?_
  refine gv_topl (y := lN 8) (by decide +kernel) ?_
  refine gv_callR (W.runS (As := [.long (lN n), .long (lN 1), .long (lN 8)]) (rest := [.ref mo]) ⟨hx, hb, hml, hown, hts⟩ (c_X8_in_1 l (lN n) (lN 1) (lN 8) ((in_nat (v := n) (a := 1) (b := 8) (by omega) (by omega) (by omega)).1) ((in_nat (v := n) (a := 1) (b := 8) (by omega) (by omega) (by omega)).2)) (va_cwS 3 hts gX8_type_X8_in rfl rfl rfl (by decide +kernel) ⟨Nat.le_of_ble_eq_true rfl, Nat.le_of_ble_eq_true rfl⟩) ⟨fun a U g mk q => q, fun U hU hW => ⟨rfl, trivial⟩⟩ rfl rfl hl.1 rfl (lv_room (Nat.le_of_ble_eq_true rfl)) dX8_type_12 ⟨Nat.zero_le _, Nat.zero_le _⟩) ?_
  refine gv_if_ne (tgt := 22) hx hb dX8_type_15 (by decide) (by omega) (fun c_15 => ?_) (fun c_15 => ?_)
  ·
    refine lv_iconst (v := nI 0) hx hb dX8_type_22 (by decide) ?_
    refine lv_iconst (v := nI 1) hx hb dX8_type_23 (by decide) ?_
    have hPc := hP.sub (ws' := [(mo, .inr (7, [.int (nI 0), .int (nI by_), .ref abuf, .int (nI ks), .ref akey, .int (nI ts), .ref atwk, .int (nI rx), .int (nI mn), .ref arow, .ref abox, .ref awrd, .int (nI rd), .ref ablk, .ref amov, .int (nI za), .int (nI zb), .ref ahA, .ref ahB, .ref ahC, .ref anum, .ref amsg, .ref astr]))]) [0] rfl
    have hDc := hD.sub (ws' := [(mo, .inr (7, [.int (nI 0), .int (nI by_), .ref abuf, .int (nI ks), .ref akey, .int (nI ts), .ref atwk, .int (nI rx), .int (nI mn), .ref arow, .ref abox, .ref awrd, .int (nI rd), .ref ablk, .ref amov, .int (nI za), .int (nI zb), .ref ahA, .ref ahB, .ref ahC, .ref anum, .ref amsg, .ref astr]))]) [0] (by decide) rfl
    refine gv_callR (W.runV (As := [.int (nI 0), .int (nI 1)]) (rest := []) ⟨hx, hb, hml, hown, hts⟩ (c_X8_refuses_0 l dC dI cI H.size mo abuf akey atwk arow abox awrd ablk amov ahA ahB ahC anum amsg astr 0 by_ ks ts rx mn rd za zb 1 ) (cwV 2 hts gX8_type_X8_refuses rfl rfl rfl (by decide +kernel) ⟨Nat.le_of_ble_eq_true rfl, Nat.le_of_ble_eq_true rfl⟩) ⟨gPc_blind, va_recv hK hPc (ci := 7) (q0 := 0) rfl rfl, gPc_pre hPc hK hDc⟩ rfl rfl hl.1 rfl (lv_room (Nat.le_of_ble_eq_true rfl)) dX8_type_24 ⟨Nat.zero_le _, Nat.zero_le _⟩) ?_
    clear hPc hDc
    refine gv_if_ne (tgt := 54) hx hb dX8_type_27 (by decide) (by omega) (fun c_27 => ?_) (fun c_27 => ?_)
    ·
      exact absurd c_27 (by decide)
    ·
      refine lv_aload_n hx hb dX8_type_30 rfl (lv_at hl 0 rfl) ?_
      refine lv_aload_n hx hb dX8_type_31 rfl (lv_at hl 0 rfl) ?_
      refine gv_get (own := RX8) (D := (dC, dI)) (ci := 7) (C := RX8) (T := TX8) (N := 23) (v := .int (nI by_)) hx hb hts (by decide +kernel) hown hK hP 0 rfl rfl 1 (by decide) (hts (.fieldLink RX8 141 "NumeralCipherModel" "bytes" "I") (by decide +kernel)) rfl rfl dX8_type_32 ?_
      refine lv_iload_n hx hb dX8_type_35 rfl (lv_at hl 2 rfl) ?_
      refine gv_iadd (r := by_ + n) hx hb dX8_type_36 rfl ?_
      refine lv_bipush (v := nI 64) hx hb dX8_type_37 (by decide) ?_
      refine gv_icmp_le (tgt := 46) hx hb dX8_type_39 (by decide) (by omega) (by omega) (fun c_39 => ?_) (fun c_39 => ?_)
      ·
        exact absurd c_39 (by omega)
      ·
        refine lv_iconst (v := nI 1) hx hb dX8_type_42 (by decide) ?_
        refine lv_goto (tgt := 47) hx hb dX8_type_43 (by decide) ?_
        refine lv_iconst (v := nI 2) hx hb dX8_type_47 (by decide) ?_
        have hPc := hP.sub (ws' := [(mo, .inr (7, [.int (nI 0), .int (nI by_), .ref abuf, .int (nI ks), .ref akey, .int (nI ts), .ref atwk, .int (nI rx), .int (nI mn), .ref arow, .ref abox, .ref awrd, .int (nI rd), .ref ablk, .ref amov, .int (nI za), .int (nI zb), .ref ahA, .ref ahB, .ref ahC, .ref anum, .ref amsg, .ref astr]))]) [0] rfl
        have hDc := hD.sub (ws' := [(mo, .inr (7, [.int (nI 0), .int (nI by_), .ref abuf, .int (nI ks), .ref akey, .int (nI ts), .ref atwk, .int (nI rx), .int (nI mn), .ref arow, .ref abox, .ref awrd, .int (nI rd), .ref ablk, .ref amov, .int (nI za), .int (nI zb), .ref ahA, .ref ahB, .ref ahC, .ref anum, .ref amsg, .ref astr]))]) [0] (by decide) rfl
        have hFc := va_free (wc := [(mo, .inr (7, [.int (nI 0), .int (nI by_), .ref abuf, .int (nI ks), .ref akey, .int (nI ts), .ref atwk, .int (nI rx), .int (nI mn), .ref arow, .ref abox, .ref awrd, .int (nI rd), .ref ablk, .ref amov, .int (nI za), .int (nI zb), .ref ahA, .ref ahB, .ref ahC, .ref anum, .ref amsg, .ref astr]))]) hD hS hA [0] rfl
        refine va_calli (va_runV (As := [.int (nI 1), .int (nI 2)]) (rest := []) ⟨hx, hb, hml, hown, hts⟩ (c_X8_refuses_1 l dC dI cI H.size mo abuf akey atwk arow abox awrd ablk amov ahA ahB ahC anum amsg astr 0 by_ ks ts rx mn rd za zb 2 (by omega) (by omega)) (cwV 2 hts gX8_type_X8_refuses rfl rfl rfl (by decide +kernel) ⟨Nat.le_of_ble_eq_true rfl, Nat.le_of_ble_eq_true rfl⟩) ⟨gPc_blind, va_recv hK hPc (ci := 7) (q0 := 0) rfl rfl, gPc_pre hPc hK hDc⟩ rfl rfl hl.1 rfl (lv_room (Nat.le_of_ble_eq_true rfl)) dX8_type_48 ⟨Nat.zero_le _, Nat.zero_le _⟩) hS (fun q _ h => hFc q h) hFc (fun r9 u8 t8 H1 locs ht hvm hw hB hz1 hk1 hS => ?_)
        try dsimp only at hw hB
        obtain ⟨hP, hD⟩ := gB_join (wr := []) (w2 := [(mo, .inr (7, [.int (nI 2), .int (nI by_), .ref abuf, .int (nI ks), .ref akey, .int (nI ts), .ref atwk, .int (nI rx), .int (nI mn), .ref arow, .ref abox, .ref awrd, .int (nI rd), .ref ablk, .ref amov, .int (nI za), .int (nI zb), .ref ahA, .ref ahB, .ref ahC, .ref anum, .ref amsg, .ref astr]))]) hP hD [0] [] rfl rfl (by decide) (by decide) hk1 hFc ht hB rfl
        clear hk1 hz1 ht hB hvm hPc hDc hFc
        generalize H1 = H at hP hS ⊢
        subst hw
        refine gv_if_eq (tgt := 56) hx hb dX8_type_51 (by decide) (by omega) (fun c_51 => ?_) (fun c_51 => ?_)
        ·
          exact absurd c_51 (by decide)
        ·
          refine lv_iconst (v := nI 0) hx hb dX8_type_54 (by decide) ?_
          exact W.iret (v := (nI 0)) hx hb hr (fun t ht hW => ⟨⟨_, (), rfl, rfl, gB_end ht hW hP hK hD⟩, hS.F ht⟩) hS.2.2 dX8_type_55
  ·
    exact absurd c_15 (by decide)

set_option maxHeartbeats 4000000 in
set_option maxRecDepth 100000 in
/-- keep: ok -/
theorem c_X8_keep_ok (l : Launch) (dC : Nat → ClassId) (dI : Nat → Nat → Nat) (cI : ClassId) (sz : Nat) (mo : Nat) (abuf : Nat) (akey : Nat) (atwk : Nat) (arow : Nat) (abox : Nat) (awrd : Nat) (ablk : Nat) (amov : Nat) (ahA : Nat) (ahB : Nat) (ahC : Nat) (anum : Nat) (amsg : Nat) (astr : Nat) (th : Nat) (by_ : Nat) (ks : Nat) (ts : Nat) (rx : Nat) (mn : Nat) (rd : Nat) (za : Nat) (zb : Nat) (n : Nat) (hn : n ≤ by_) (hb : by_ ≤ 64) : Met l yX8_keep wsX8_keep ({ frames := 1, cells := 0, slots := 0, locals := 25 }) (gPc dC dI cI [.ref mo, .int (nI n)] [(mo, .inr (7, [.int (nI th), .int (nI by_), .ref abuf, .int (nI ks), .ref akey, .int (nI ts), .ref atwk, .int (nI rx), .int (nI mn), .ref arow, .ref abox, .ref awrd, .int (nI rd), .ref ablk, .ref amov, .int (nI za), .int (nI zb), .ref ahA, .ref ahB, .ref ahC, .ref anum, .ref amsg, .ref astr]))] sz) (va_Qv (fun _u : Unit => True) (fun _u t => gB dC dI cI (va_A [(mo, .inr (7, [.int (nI th), .int (nI by_), .ref abuf, .int (nI ks), .ref akey, .int (nI ts), .ref atwk, .int (nI rx), .int (nI mn), .ref arow, .ref abox, .ref awrd, .int (nI rd), .ref ablk, .ref amov, .int (nI za), .int (nI zb), .ref ahA, .ref ahB, .ref ahC, .ref anum, .ref amsg, .ref astr]))] sz) [(mo, .inr (7, [.int (nI 0), .int (nI n), .ref abuf, .int (nI ks), .ref akey, .int (nI ts), .ref atwk, .int (nI rx), .int (nI mn), .ref arow, .ref abox, .ref awrd, .int (nI rd), .ref ablk, .ref amov, .int (nI za), .int (nI zb), .ref ahA, .ref ahB, .ref ahC, .ref anum, .ref amsg, .ref astr]))] t) (va_A [(mo, .inr (7, [.int (nI th), .int (nI by_), .ref abuf, .int (nI ks), .ref akey, .int (nI ts), .ref atwk, .int (nI rx), .int (nI mn), .ref arow, .ref abox, .ref awrd, .int (nI rd), .ref ablk, .ref amov, .int (nI za), .int (nI zb), .ref ahA, .ref ahB, .ref ahC, .ref anum, .ref amsg, .ref astr]))] sz)) 0 0 (va_A [(mo, .inr (7, [.int (nI th), .int (nI by_), .ref abuf, .int (nI ks), .ref akey, .int (nI ts), .ref atwk, .int (nI rx), .int (nI mn), .ref arow, .ref abox, .ref awrd, .int (nI rd), .ref ablk, .ref amov, .int (nI za), .int (nI zb), .ref ahA, .ref ahB, .ref ahC, .ref anum, .ref amsg, .ref astr]))] sz) := by
  refine Met.ofW (cc := cX8_keep) (maxL := 2) (ret := none) (by decide) rfl ?_
  intro p e s m args below meth c s₁ B9 hml hv
  obtain ⟨rfl, hsz, ⟨hP, hK, hD0⟩⟩ := hv
  have hx := B9.exec
  have hb := B9.bytes
  have hr := B9.returns
  have hts := atoms_spec (ws := wsX8_keep) B9.pre
  have hown : s.vm.findClass RX8 = some m.cls := findClass_of_methodNamed B9.named
  have hlocks := B9.notSynchronized
  subst hsz
  have hD := hD0.self (sz := s.heap.size)
  generalize hAe : va_A [(mo, .inr (7, [.int (nI th), .int (nI by_), .ref abuf, .int (nI ks), .ref akey, .int (nI ts), .ref atwk, .int (nI rx), .int (nI mn), .ref arow, .ref abox, .ref awrd, .int (nI rd), .ref ablk, .ref amov, .int (nI za), .int (nI zb), .ref ahA, .ref ahB, .ref ahC, .ref anum, .ref amsg, .ref astr]))] s.heap.size = A at hD ⊢
  have hA : ∀ q : Nat, s.heap.size ≤ q → A q := fun q h => by rw [← hAe]; exact Or.inr h
  have hS : va_S A s.heap s.heap [] := va_S.rf
  have hl := lv_entry ([.ref mo, .int (nI n)]) (n := 2) (Nat.le_of_ble_eq_true rfl)
  rw [lg_entry_eq]
  generalize (lg_sl ([.ref mo, .int (nI n)]) ++ List.replicate (2 - (lg_sl ([.ref mo, .int (nI n)])).length) Slot.unset).toArray = ls at hl ⊢
  have hl : lv_has ls 2 [(0, .ref mo), (1, .int (nI n))] := hl
  refine lv_aload_n hx hb dX8_keep_0 rfl (lv_at hl 0 rfl) ?_
  refine lv_iconst (v := nI 0) hx hb dX8_keep_1 (by decide) ?_
  refine gv_put (own := RX8) (D := (dC, dI)) (ci := 7) (C := RX8) (T := TX8) (N := 23) (ws' := [(mo, .inr (7, [.int (nI 0), .int (nI by_), .ref abuf, .int (nI ks), .ref akey, .int (nI ts), .ref atwk, .int (nI rx), .int (nI mn), .ref arow, .ref abox, .ref awrd, .int (nI rd), .ref ablk, .ref amov, .int (nI za), .int (nI zb), .ref ahA, .ref ahB, .ref ahC, .ref anum, .ref amsg, .ref astr]))]) hx hb hts (by decide +kernel) tyX8 tyX8_ok nmX8 hown hK hP hD hS 0 rfl rfl 0 (by decide) (hts (.fieldLink RX8 63 "NumeralCipherModel" "thrown" "I") (by decide +kernel)) rfl rfl (by decide +kernel) (Nat.le_of_ble_eq_true rfl) rfl dX8_keep_2 (fun H locs hP hD hS => ?_)
  refine lv_aload_n hx hb dX8_keep_5 rfl (lv_at hl 0 rfl) ?_
  refine lv_iload_n hx hb dX8_keep_6 rfl (lv_at hl 1 rfl) ?_
  refine lv_i2l (v := lN n) hx hb dX8_keep_7 (nI_l (by omega)) ?_
  refine lv_lconst (v := lN 0) hx hb dX8_keep_8 (by decide) ?_
  refine lv_aload_n hx hb dX8_keep_9 rfl (lv_at hl 0 rfl) ?_
  refine gv_get (own := RX8) (D := (dC, dI)) (ci := 7) (C := RX8) (T := TX8) (N := 23) (v := .int (nI by_)) hx hb hts (by decide +kernel) hown hK hP 0 rfl rfl 1 (by decide) (hts (.fieldLink RX8 141 "NumeralCipherModel" "bytes" "I") (by decide +kernel)) rfl rfl dX8_keep_10 ?_
  refine lv_i2l (v := lN by_) hx hb dX8_keep_13 (nI_l (by omega)) ?_
  refine gv_callR (W.runS (As := [.long (lN n), .long (lN 0), .long (lN by_)]) (rest := [.ref mo]) ⟨hx, hb, hml, hown, hts⟩ (c_X8_in_1 l (lN n) (lN 0) (lN by_) ((in_nat (v := n) (a := 0) (b := by_) (by omega) (by omega) (by omega)).1) ((in_nat (v := n) (a := 0) (b := by_) (by omega) (by omega) (by omega)).2)) (va_cwS 3 hts gX8_keep_X8_in rfl rfl rfl (by decide +kernel) ⟨Nat.le_of_ble_eq_true rfl, Nat.le_of_ble_eq_true rfl⟩) ⟨fun a U g mk q => q, fun U hU hW => ⟨rfl, trivial⟩⟩ rfl rfl hl.1 rfl (lv_room (Nat.le_of_ble_eq_true rfl)) dX8_keep_14 ⟨Nat.zero_le _, Nat.zero_le _⟩) ?_
  refine gv_if_ne (tgt := 24) hx hb dX8_keep_17 (by decide) (by omega) (fun c_17 => ?_) (fun c_17 => ?_)
  ·
    refine lv_iconst (v := nI 0) hx hb dX8_keep_24 (by decide) ?_
    refine lv_iconst (v := nI 1) hx hb dX8_keep_25 (by decide) ?_
    have hPc := hP.sub (ws' := [(mo, .inr (7, [.int (nI 0), .int (nI by_), .ref abuf, .int (nI ks), .ref akey, .int (nI ts), .ref atwk, .int (nI rx), .int (nI mn), .ref arow, .ref abox, .ref awrd, .int (nI rd), .ref ablk, .ref amov, .int (nI za), .int (nI zb), .ref ahA, .ref ahB, .ref ahC, .ref anum, .ref amsg, .ref astr]))]) [0] rfl
    have hDc := hD.sub (ws' := [(mo, .inr (7, [.int (nI 0), .int (nI by_), .ref abuf, .int (nI ks), .ref akey, .int (nI ts), .ref atwk, .int (nI rx), .int (nI mn), .ref arow, .ref abox, .ref awrd, .int (nI rd), .ref ablk, .ref amov, .int (nI za), .int (nI zb), .ref ahA, .ref ahB, .ref ahC, .ref anum, .ref amsg, .ref astr]))]) [0] (by decide) rfl
    refine gv_callR (W.runV (As := [.int (nI 0), .int (nI 1)]) (rest := []) ⟨hx, hb, hml, hown, hts⟩ (c_X8_refuses_0 l dC dI cI H.size mo abuf akey atwk arow abox awrd ablk amov ahA ahB ahC anum amsg astr 0 by_ ks ts rx mn rd za zb 1 ) (cwV 2 hts gX8_keep_X8_refuses rfl rfl rfl (by decide +kernel) ⟨Nat.le_of_ble_eq_true rfl, Nat.le_of_ble_eq_true rfl⟩) ⟨gPc_blind, va_recv hK hPc (ci := 7) (q0 := 0) rfl rfl, gPc_pre hPc hK hDc⟩ rfl rfl hl.1 rfl (lv_room (Nat.le_of_ble_eq_true rfl)) dX8_keep_26 ⟨Nat.zero_le _, Nat.zero_le _⟩) ?_
    clear hPc hDc
    refine gv_if_ne (tgt := 37) hx hb dX8_keep_29 (by decide) (by omega) (fun c_29 => ?_) (fun c_29 => ?_)
    ·
      exact absurd c_29 (by decide)
    ·
      refine lv_aload_n hx hb dX8_keep_32 rfl (lv_at hl 0 rfl) ?_
      refine lv_iload_n hx hb dX8_keep_33 rfl (lv_at hl 1 rfl) ?_
      refine gv_put (own := RX8) (D := (dC, dI)) (ci := 7) (C := RX8) (T := TX8) (N := 23) (ws' := [(mo, .inr (7, [.int (nI 0), .int (nI n), .ref abuf, .int (nI ks), .ref akey, .int (nI ts), .ref atwk, .int (nI rx), .int (nI mn), .ref arow, .ref abox, .ref awrd, .int (nI rd), .ref ablk, .ref amov, .int (nI za), .int (nI zb), .ref ahA, .ref ahB, .ref ahC, .ref anum, .ref amsg, .ref astr]))]) hx hb hts (by decide +kernel) tyX8 tyX8_ok nmX8 hown hK hP hD hS 0 rfl rfl 1 (by decide) (hts (.fieldLink RX8 141 "NumeralCipherModel" "bytes" "I") (by decide +kernel)) rfl rfl (by decide +kernel) (Nat.le_of_ble_eq_true rfl) rfl dX8_keep_34 (fun H locs hP hD hS => ?_)
      exact W.vret hx hb hr (fun t ht hW => ⟨⟨(), rfl, trivial, gB_end ht hW hP hK hD⟩, hS.F ht⟩) hS.2.2 dX8_keep_37
  ·
    exact absurd c_17 (by decide)

set_option maxHeartbeats 4000000 in
set_option maxRecDepth 100000 in
/-- keep: b1 -/
theorem c_X8_keep_b1 (l : Launch) (dC : Nat → ClassId) (dI : Nat → Nat → Nat) (cI : ClassId) (sz : Nat) (mo : Nat) (abuf : Nat) (akey : Nat) (atwk : Nat) (arow : Nat) (abox : Nat) (awrd : Nat) (ablk : Nat) (amov : Nat) (ahA : Nat) (ahB : Nat) (ahC : Nat) (anum : Nat) (amsg : Nat) (astr : Nat) (th : Nat) (by_ : Nat) (ks : Nat) (ts : Nat) (rx : Nat) (mn : Nat) (rd : Nat) (za : Nat) (zb : Nat) (x : Int32) (hb : by_ ≤ 64) (hbad : x.toInt < 0 ∨ (by_ : Int) < x.toInt) : Met l yX8_keep wsX8_keep ({ frames := 1, cells := 0, slots := 0, locals := 25 }) (gPc dC dI cI [.ref mo, .int x] [(mo, .inr (7, [.int (nI th), .int (nI by_), .ref abuf, .int (nI ks), .ref akey, .int (nI ts), .ref atwk, .int (nI rx), .int (nI mn), .ref arow, .ref abox, .ref awrd, .int (nI rd), .ref ablk, .ref amov, .int (nI za), .int (nI zb), .ref ahA, .ref ahB, .ref ahC, .ref anum, .ref amsg, .ref astr]))] sz) (va_Qv (fun _u : Unit => True) (fun _u t => gB dC dI cI (va_A [(mo, .inr (7, [.int (nI th), .int (nI by_), .ref abuf, .int (nI ks), .ref akey, .int (nI ts), .ref atwk, .int (nI rx), .int (nI mn), .ref arow, .ref abox, .ref awrd, .int (nI rd), .ref ablk, .ref amov, .int (nI za), .int (nI zb), .ref ahA, .ref ahB, .ref ahC, .ref anum, .ref amsg, .ref astr]))] sz) [(mo, .inr (7, [.int (nI 1), .int (nI by_), .ref abuf, .int (nI ks), .ref akey, .int (nI ts), .ref atwk, .int (nI rx), .int (nI mn), .ref arow, .ref abox, .ref awrd, .int (nI rd), .ref ablk, .ref amov, .int (nI za), .int (nI zb), .ref ahA, .ref ahB, .ref ahC, .ref anum, .ref amsg, .ref astr]))] t) (va_A [(mo, .inr (7, [.int (nI th), .int (nI by_), .ref abuf, .int (nI ks), .ref akey, .int (nI ts), .ref atwk, .int (nI rx), .int (nI mn), .ref arow, .ref abox, .ref awrd, .int (nI rd), .ref ablk, .ref amov, .int (nI za), .int (nI zb), .ref ahA, .ref ahB, .ref ahC, .ref anum, .ref amsg, .ref astr]))] sz)) 0 0 (va_A [(mo, .inr (7, [.int (nI th), .int (nI by_), .ref abuf, .int (nI ks), .ref akey, .int (nI ts), .ref atwk, .int (nI rx), .int (nI mn), .ref arow, .ref abox, .ref awrd, .int (nI rd), .ref ablk, .ref amov, .int (nI za), .int (nI zb), .ref ahA, .ref ahB, .ref ahC, .ref anum, .ref amsg, .ref astr]))] sz) := by
  refine Met.ofW (cc := cX8_keep) (maxL := 2) (ret := none) (by decide) rfl ?_
  intro p e s m args below meth c s₁ B9 hml hv
  obtain ⟨rfl, hsz, ⟨hP, hK, hD0⟩⟩ := hv
  have hx := B9.exec
  have hb := B9.bytes
  have hr := B9.returns
  have hts := atoms_spec (ws := wsX8_keep) B9.pre
  have hown : s.vm.findClass RX8 = some m.cls := findClass_of_methodNamed B9.named
  have hlocks := B9.notSynchronized
  subst hsz
  have hD := hD0.self (sz := s.heap.size)
  generalize hAe : va_A [(mo, .inr (7, [.int (nI th), .int (nI by_), .ref abuf, .int (nI ks), .ref akey, .int (nI ts), .ref atwk, .int (nI rx), .int (nI mn), .ref arow, .ref abox, .ref awrd, .int (nI rd), .ref ablk, .ref amov, .int (nI za), .int (nI zb), .ref ahA, .ref ahB, .ref ahC, .ref anum, .ref amsg, .ref astr]))] s.heap.size = A at hD ⊢
  have hA : ∀ q : Nat, s.heap.size ≤ q → A q := fun q h => by rw [← hAe]; exact Or.inr h
  have hS : va_S A s.heap s.heap [] := va_S.rf
  have hl := lv_entry ([.ref mo, .int x]) (n := 2) (Nat.le_of_ble_eq_true rfl)
  rw [lg_entry_eq]
  generalize (lg_sl ([.ref mo, .int x]) ++ List.replicate (2 - (lg_sl ([.ref mo, .int x])).length) Slot.unset).toArray = ls at hl ⊢
  have hl : lv_has ls 2 [(0, .ref mo), (1, .int x)] := hl
  refine lv_aload_n hx hb dX8_keep_0 rfl (lv_at hl 0 rfl) ?_
  refine lv_iconst (v := nI 0) hx hb dX8_keep_1 (by decide) ?_
  refine gv_put (own := RX8) (D := (dC, dI)) (ci := 7) (C := RX8) (T := TX8) (N := 23) (ws' := [(mo, .inr (7, [.int (nI 0), .int (nI by_), .ref abuf, .int (nI ks), .ref akey, .int (nI ts), .ref atwk, .int (nI rx), .int (nI mn), .ref arow, .ref abox, .ref awrd, .int (nI rd), .ref ablk, .ref amov, .int (nI za), .int (nI zb), .ref ahA, .ref ahB, .ref ahC, .ref anum, .ref amsg, .ref astr]))]) hx hb hts (by decide +kernel) tyX8 tyX8_ok nmX8 hown hK hP hD hS 0 rfl rfl 0 (by decide) (hts (.fieldLink RX8 63 "NumeralCipherModel" "thrown" "I") (by decide +kernel)) rfl rfl (by decide +kernel) (Nat.le_of_ble_eq_true rfl) rfl dX8_keep_2 (fun H locs hP hD hS => ?_)
  refine lv_aload_n hx hb dX8_keep_5 rfl (lv_at hl 0 rfl) ?_
  refine lv_iload_n hx hb dX8_keep_6 rfl (lv_at hl 1 rfl) ?_
  refine lv_i2l (v := x.toInt64) hx hb dX8_keep_7 rfl ?_
  refine lv_lconst (v := lN 0) hx hb dX8_keep_8 (by decide) ?_
  refine lv_aload_n hx hb dX8_keep_9 rfl (lv_at hl 0 rfl) ?_
  refine gv_get (own := RX8) (D := (dC, dI)) (ci := 7) (C := RX8) (T := TX8) (N := 23) (v := .int (nI by_)) hx hb hts (by decide +kernel) hown hK hP 0 rfl rfl 1 (by decide) (hts (.fieldLink RX8 141 "NumeralCipherModel" "bytes" "I") (by decide +kernel)) rfl rfl dX8_keep_10 ?_
  refine lv_i2l (v := lN by_) hx hb dX8_keep_13 (nI_l (by omega)) ?_
  refine gv_callR (W.runS (As := [.long x.toInt64, .long (lN 0), .long (lN by_)]) (rest := [.ref mo]) ⟨hx, hb, hml, hown, hts⟩ (c_X8_in_0 l x.toInt64 (lN 0) (lN by_) (in_raw (pk_lT (by decide)) (pk_lT (by omega)) (by omega))) (va_cwS 3 hts gX8_keep_X8_in rfl rfl rfl (by decide +kernel) ⟨Nat.le_of_ble_eq_true rfl, Nat.le_of_ble_eq_true rfl⟩) ⟨fun a U g mk q => q, fun U hU hW => ⟨rfl, trivial⟩⟩ rfl rfl hl.1 rfl (lv_room (Nat.le_of_ble_eq_true rfl)) dX8_keep_14 ⟨Nat.zero_le _, Nat.zero_le _⟩) ?_
  refine gv_if_ne (tgt := 24) hx hb dX8_keep_17 (by decide) (by omega) (fun c_17 => ?_) (fun c_17 => ?_)
  ·
    exact absurd c_17 (by decide)
  ·
    refine lv_iconst (v := nI 1) hx hb dX8_keep_20 (by decide) ?_
    refine lv_goto (tgt := 25) hx hb dX8_keep_21 (by decide) ?_
    refine lv_iconst (v := nI 1) hx hb dX8_keep_25 (by decide) ?_
    have hPc := hP.sub (ws' := [(mo, .inr (7, [.int (nI 0), .int (nI by_), .ref abuf, .int (nI ks), .ref akey, .int (nI ts), .ref atwk, .int (nI rx), .int (nI mn), .ref arow, .ref abox, .ref awrd, .int (nI rd), .ref ablk, .ref amov, .int (nI za), .int (nI zb), .ref ahA, .ref ahB, .ref ahC, .ref anum, .ref amsg, .ref astr]))]) [0] rfl
    have hDc := hD.sub (ws' := [(mo, .inr (7, [.int (nI 0), .int (nI by_), .ref abuf, .int (nI ks), .ref akey, .int (nI ts), .ref atwk, .int (nI rx), .int (nI mn), .ref arow, .ref abox, .ref awrd, .int (nI rd), .ref ablk, .ref amov, .int (nI za), .int (nI zb), .ref ahA, .ref ahB, .ref ahC, .ref anum, .ref amsg, .ref astr]))]) [0] (by decide) rfl
    have hFc := va_free (wc := [(mo, .inr (7, [.int (nI 0), .int (nI by_), .ref abuf, .int (nI ks), .ref akey, .int (nI ts), .ref atwk, .int (nI rx), .int (nI mn), .ref arow, .ref abox, .ref awrd, .int (nI rd), .ref ablk, .ref amov, .int (nI za), .int (nI zb), .ref ahA, .ref ahB, .ref ahC, .ref anum, .ref amsg, .ref astr]))]) hD hS hA [0] rfl
    refine va_calli (va_runV (As := [.int (nI 1), .int (nI 1)]) (rest := []) ⟨hx, hb, hml, hown, hts⟩ (c_X8_refuses_1 l dC dI cI H.size mo abuf akey atwk arow abox awrd ablk amov ahA ahB ahC anum amsg astr 0 by_ ks ts rx mn rd za zb 1 (by omega) (by omega)) (cwV 2 hts gX8_keep_X8_refuses rfl rfl rfl (by decide +kernel) ⟨Nat.le_of_ble_eq_true rfl, Nat.le_of_ble_eq_true rfl⟩) ⟨gPc_blind, va_recv hK hPc (ci := 7) (q0 := 0) rfl rfl, gPc_pre hPc hK hDc⟩ rfl rfl hl.1 rfl (lv_room (Nat.le_of_ble_eq_true rfl)) dX8_keep_26 ⟨Nat.zero_le _, Nat.zero_le _⟩) hS (fun q _ h => hFc q h) hFc (fun r9 u8 t8 H1 locs ht hvm hw hB hz1 hk1 hS => ?_)
    try dsimp only at hw hB
    obtain ⟨hP, hD⟩ := gB_join (wr := []) (w2 := [(mo, .inr (7, [.int (nI 1), .int (nI by_), .ref abuf, .int (nI ks), .ref akey, .int (nI ts), .ref atwk, .int (nI rx), .int (nI mn), .ref arow, .ref abox, .ref awrd, .int (nI rd), .ref ablk, .ref amov, .int (nI za), .int (nI zb), .ref ahA, .ref ahB, .ref ahC, .ref anum, .ref amsg, .ref astr]))]) hP hD [0] [] rfl rfl (by decide) (by decide) hk1 hFc ht hB rfl
    clear hk1 hz1 ht hB hvm hPc hDc hFc
    generalize H1 = H at hP hS ⊢
    subst hw
    refine gv_if_ne (tgt := 37) hx hb dX8_keep_29 (by decide) (by omega) (fun c_29 => ?_) (fun c_29 => ?_)
    ·
      exact W.vret hx hb hr (fun t ht hW => ⟨⟨(), rfl, trivial, gB_end ht hW hP hK hD⟩, hS.F ht⟩) hS.2.2 dX8_keep_37
    ·
      exact absurd c_29 (by decide)

set_option maxHeartbeats 4000000 in
set_option maxRecDepth 100000 in
/-- typed: ok -/
theorem c_X8_typed_ok (l : Launch) (dC : Nat → ClassId) (dI : Nat → Nat → Nat) (cI : ClassId) (sz : Nat) (mo : Nat) (abuf : Nat) (akey : Nat) (atwk : Nat) (arow : Nat) (abox : Nat) (awrd : Nat) (ablk : Nat) (amov : Nat) (ahA : Nat) (ahB : Nat) (ahC : Nat) (anum : Nat) (amsg : Nat) (astr : Nat) (th : Nat) (by_ : Nat) (ks : Nat) (ts : Nat) (rx : Nat) (mn : Nat) (rd : Nat) (za : Nat) (zb : Nat) (i : Nat) (b0 : Nat → Nat) (hn : i < by_) (hb : by_ ≤ 64) : Met l yX8_typed wsX8_typed ({ frames := 1, cells := 0, slots := 0, locals := 25 }) (gPc dC dI cI [.ref mo, .int (nI i)] [(mo, .inr (7, [.int (nI th), .int (nI by_), .ref abuf, .int (nI ks), .ref akey, .int (nI ts), .ref atwk, .int (nI rx), .int (nI mn), .ref arow, .ref abox, .ref awrd, .int (nI rd), .ref ablk, .ref amov, .int (nI za), .int (nI zb), .ref ahA, .ref ahB, .ref ahC, .ref anum, .ref amsg, .ref astr])), (abuf, .inl (cI, 64, .inl (gA b0)))] sz) (va_Qi (fun (r : Int32) (_u : Unit) => r = (nI (b0 i))) (fun _u t => gB dC dI cI (va_A [(mo, .inr (7, [.int (nI th), .int (nI by_), .ref abuf, .int (nI ks), .ref akey, .int (nI ts), .ref atwk, .int (nI rx), .int (nI mn), .ref arow, .ref abox, .ref awrd, .int (nI rd), .ref ablk, .ref amov, .int (nI za), .int (nI zb), .ref ahA, .ref ahB, .ref ahC, .ref anum, .ref amsg, .ref astr])), (abuf, .inl (cI, 64, .inl (gA b0)))] sz) [(mo, .inr (7, [.int (nI 0), .int (nI by_), .ref abuf, .int (nI ks), .ref akey, .int (nI ts), .ref atwk, .int (nI rx), .int (nI mn), .ref arow, .ref abox, .ref awrd, .int (nI rd), .ref ablk, .ref amov, .int (nI za), .int (nI zb), .ref ahA, .ref ahB, .ref ahC, .ref anum, .ref amsg, .ref astr])), (abuf, .inl (cI, 64, .inl (gA b0)))] t) (va_A [(mo, .inr (7, [.int (nI th), .int (nI by_), .ref abuf, .int (nI ks), .ref akey, .int (nI ts), .ref atwk, .int (nI rx), .int (nI mn), .ref arow, .ref abox, .ref awrd, .int (nI rd), .ref ablk, .ref amov, .int (nI za), .int (nI zb), .ref ahA, .ref ahB, .ref ahC, .ref anum, .ref amsg, .ref astr])), (abuf, .inl (cI, 64, .inl (gA b0)))] sz)) 0 0 (va_A [(mo, .inr (7, [.int (nI th), .int (nI by_), .ref abuf, .int (nI ks), .ref akey, .int (nI ts), .ref atwk, .int (nI rx), .int (nI mn), .ref arow, .ref abox, .ref awrd, .int (nI rd), .ref ablk, .ref amov, .int (nI za), .int (nI zb), .ref ahA, .ref ahB, .ref ahC, .ref anum, .ref amsg, .ref astr])), (abuf, .inl (cI, 64, .inl (gA b0)))] sz) := by
  refine Met.ofW (cc := cX8_typed) (maxL := 2) (ret := (some .int)) (by decide) rfl ?_
  intro p e s m args below meth c s₁ B9 hml hv
  obtain ⟨rfl, hsz, ⟨hP, hK, hD0⟩⟩ := hv
  have hx := B9.exec
  have hb := B9.bytes
  have hr := B9.returns
  have hts := atoms_spec (ws := wsX8_typed) B9.pre
  have hown : s.vm.findClass RX8 = some m.cls := findClass_of_methodNamed B9.named
  have hlocks := B9.notSynchronized
  subst hsz
  have hD := hD0.self (sz := s.heap.size)
  generalize hAe : va_A [(mo, .inr (7, [.int (nI th), .int (nI by_), .ref abuf, .int (nI ks), .ref akey, .int (nI ts), .ref atwk, .int (nI rx), .int (nI mn), .ref arow, .ref abox, .ref awrd, .int (nI rd), .ref ablk, .ref amov, .int (nI za), .int (nI zb), .ref ahA, .ref ahB, .ref ahC, .ref anum, .ref amsg, .ref astr])), (abuf, .inl (cI, 64, .inl (gA b0)))] s.heap.size = A at hD ⊢
  have hA : ∀ q : Nat, s.heap.size ≤ q → A q := fun q h => by rw [← hAe]; exact Or.inr h
  have hS : va_S A s.heap s.heap [] := va_S.rf
  have hl := lv_entry ([.ref mo, .int (nI i)]) (n := 2) (Nat.le_of_ble_eq_true rfl)
  rw [lg_entry_eq]
  generalize (lg_sl ([.ref mo, .int (nI i)]) ++ List.replicate (2 - (lg_sl ([.ref mo, .int (nI i)])).length) Slot.unset).toArray = ls at hl ⊢
  have hl : lv_has ls 2 [(0, .ref mo), (1, .int (nI i))] := hl
  refine lv_aload_n hx hb dX8_typed_0 rfl (lv_at hl 0 rfl) ?_
  refine lv_iconst (v := nI 0) hx hb dX8_typed_1 (by decide) ?_
  refine gv_put (own := RX8) (D := (dC, dI)) (ci := 7) (C := RX8) (T := TX8) (N := 23) (ws' := [(mo, .inr (7, [.int (nI 0), .int (nI by_), .ref abuf, .int (nI ks), .ref akey, .int (nI ts), .ref atwk, .int (nI rx), .int (nI mn), .ref arow, .ref abox, .ref awrd, .int (nI rd), .ref ablk, .ref amov, .int (nI za), .int (nI zb), .ref ahA, .ref ahB, .ref ahC, .ref anum, .ref amsg, .ref astr])), (abuf, .inl (cI, 64, .inl (gA b0)))]) hx hb hts (by decide +kernel) tyX8 tyX8_ok nmX8 hown hK hP hD hS 0 rfl rfl 0 (by decide) (hts (.fieldLink RX8 63 "NumeralCipherModel" "thrown" "I") (by decide +kernel)) rfl rfl (by decide +kernel) (Nat.le_of_ble_eq_true rfl) rfl dX8_typed_2 (fun H locs hP hD hS => ?_)
  refine lv_aload_n hx hb dX8_typed_5 rfl (lv_at hl 0 rfl) ?_
  refine lv_iload_n hx hb dX8_typed_6 rfl (lv_at hl 1 rfl) ?_
  refine lv_i2l (v := lN i) hx hb dX8_typed_7 (nI_l (by omega)) ?_
  refine lv_lconst (v := lN 0) hx hb dX8_typed_8 (by decide) ?_
  refine lv_aload_n hx hb dX8_typed_9 rfl (lv_at hl 0 rfl) ?_
  refine gv_get (own := RX8) (D := (dC, dI)) (ci := 7) (C := RX8) (T := TX8) (N := 23) (v := .int (nI by_)) hx hb hts (by decide +kernel) hown hK hP 0 rfl rfl 1 (by decide) (hts (.fieldLink RX8 141 "NumeralCipherModel" "bytes" "I") (by decide +kernel)) rfl rfl dX8_typed_10 ?_
  refine lv_iconst (v := nI 1) hx hb dX8_typed_13 (by decide) ?_
  refine gv_isub (r := by_ - 1) hx hb dX8_typed_14 (by omega) ?_
  refine lv_i2l (v := lN (by_ - 1)) hx hb dX8_typed_15 (nI_l (by omega)) ?_
  refine gv_callR (W.runS (As := [.long (lN i), .long (lN 0), .long (lN (by_ - 1))]) (rest := [.ref mo]) ⟨hx, hb, hml, hown, hts⟩ (c_X8_in_1 l (lN i) (lN 0) (lN (by_ - 1)) ((in_nat (v := i) (a := 0) (b := by_ - 1) (by omega) (by omega) (by omega)).1) ((in_nat (v := i) (a := 0) (b := by_ - 1) (by omega) (by omega) (by omega)).2)) (va_cwS 3 hts gX8_typed_X8_in rfl rfl rfl (by decide +kernel) ⟨Nat.le_of_ble_eq_true rfl, Nat.le_of_ble_eq_true rfl⟩) ⟨fun a U g mk q => q, fun U hU hW => ⟨rfl, trivial⟩⟩ rfl rfl hl.1 rfl (lv_room (Nat.le_of_ble_eq_true rfl)) dX8_typed_16 ⟨Nat.zero_le _, Nat.zero_le _⟩) ?_
  refine gv_if_ne (tgt := 26) hx hb dX8_typed_19 (by decide) (by omega) (fun c_19 => ?_) (fun c_19 => ?_)
  ·
    refine lv_iconst (v := nI 0) hx hb dX8_typed_26 (by decide) ?_
    refine lv_iconst (v := nI 1) hx hb dX8_typed_27 (by decide) ?_
    have hPc := hP.sub (ws' := [(mo, .inr (7, [.int (nI 0), .int (nI by_), .ref abuf, .int (nI ks), .ref akey, .int (nI ts), .ref atwk, .int (nI rx), .int (nI mn), .ref arow, .ref abox, .ref awrd, .int (nI rd), .ref ablk, .ref amov, .int (nI za), .int (nI zb), .ref ahA, .ref ahB, .ref ahC, .ref anum, .ref amsg, .ref astr]))]) [0] rfl
    have hDc := hD.sub (ws' := [(mo, .inr (7, [.int (nI 0), .int (nI by_), .ref abuf, .int (nI ks), .ref akey, .int (nI ts), .ref atwk, .int (nI rx), .int (nI mn), .ref arow, .ref abox, .ref awrd, .int (nI rd), .ref ablk, .ref amov, .int (nI za), .int (nI zb), .ref ahA, .ref ahB, .ref ahC, .ref anum, .ref amsg, .ref astr]))]) [0] (by decide) rfl
    refine gv_callR (W.runV (As := [.int (nI 0), .int (nI 1)]) (rest := []) ⟨hx, hb, hml, hown, hts⟩ (c_X8_refuses_0 l dC dI cI H.size mo abuf akey atwk arow abox awrd ablk amov ahA ahB ahC anum amsg astr 0 by_ ks ts rx mn rd za zb 1 ) (cwV 2 hts gX8_typed_X8_refuses rfl rfl rfl (by decide +kernel) ⟨Nat.le_of_ble_eq_true rfl, Nat.le_of_ble_eq_true rfl⟩) ⟨gPc_blind, va_recv hK hPc (ci := 7) (q0 := 0) rfl rfl, gPc_pre hPc hK hDc⟩ rfl rfl hl.1 rfl (lv_room (Nat.le_of_ble_eq_true rfl)) dX8_typed_28 ⟨Nat.zero_le _, Nat.zero_le _⟩) ?_
    clear hPc hDc
    refine gv_if_eq (tgt := 38) hx hb dX8_typed_31 (by decide) (by omega) (fun c_31 => ?_) (fun c_31 => ?_)
    ·
      refine lv_aload_n hx hb dX8_typed_38 rfl (lv_at hl 0 rfl) ?_
      refine gv_get (own := RX8) (D := (dC, dI)) (ci := 7) (C := RX8) (T := TX8) (N := 23) (v := .ref abuf) hx hb hts (by decide +kernel) hown hK hP 0 rfl rfl 2 (by decide) (hts (.fieldLink RX8 7 "NumeralCipherModel" "buffer" "[I") (by decide +kernel)) rfl rfl dX8_typed_39 ?_
      refine lv_iload_n hx hb dX8_typed_42 rfl (lv_at hl 1 rfl) ?_
      refine gv_iald hx hb hK hP 1 0 rfl rfl (by omega) (by omega) dX8_typed_43 ?_
      exact W.iret (v := (nI (b0 i))) hx hb hr (fun t ht hW => ⟨⟨_, (), rfl, rfl, gB_end ht hW hP hK hD⟩, hS.F ht⟩) hS.2.2 dX8_typed_44
    ·
      exact absurd c_31 (by decide)
  ·
    exact absurd c_19 (by decide)

set_option maxHeartbeats 4000000 in
set_option maxRecDepth 100000 in
/-- typed: b1 -/
theorem c_X8_typed_b1 (l : Launch) (dC : Nat → ClassId) (dI : Nat → Nat → Nat) (cI : ClassId) (sz : Nat) (mo : Nat) (abuf : Nat) (akey : Nat) (atwk : Nat) (arow : Nat) (abox : Nat) (awrd : Nat) (ablk : Nat) (amov : Nat) (ahA : Nat) (ahB : Nat) (ahC : Nat) (anum : Nat) (amsg : Nat) (astr : Nat) (th : Nat) (by_ : Nat) (ks : Nat) (ts : Nat) (rx : Nat) (mn : Nat) (rd : Nat) (za : Nat) (zb : Nat) (x : Int32) (hb : by_ ≤ 64) (hbad : x.toInt < 0 ∨ (by_ : Int) ≤ x.toInt) : Met l yX8_typed wsX8_typed ({ frames := 1, cells := 0, slots := 0, locals := 25 }) (gPc dC dI cI [.ref mo, .int x] [(mo, .inr (7, [.int (nI th), .int (nI by_), .ref abuf, .int (nI ks), .ref akey, .int (nI ts), .ref atwk, .int (nI rx), .int (nI mn), .ref arow, .ref abox, .ref awrd, .int (nI rd), .ref ablk, .ref amov, .int (nI za), .int (nI zb), .ref ahA, .ref ahB, .ref ahC, .ref anum, .ref amsg, .ref astr]))] sz) (va_Qi (fun (r : Int32) (_u : Unit) => r = (nI 0)) (fun _u t => gB dC dI cI (va_A [(mo, .inr (7, [.int (nI th), .int (nI by_), .ref abuf, .int (nI ks), .ref akey, .int (nI ts), .ref atwk, .int (nI rx), .int (nI mn), .ref arow, .ref abox, .ref awrd, .int (nI rd), .ref ablk, .ref amov, .int (nI za), .int (nI zb), .ref ahA, .ref ahB, .ref ahC, .ref anum, .ref amsg, .ref astr]))] sz) [(mo, .inr (7, [.int (nI 1), .int (nI by_), .ref abuf, .int (nI ks), .ref akey, .int (nI ts), .ref atwk, .int (nI rx), .int (nI mn), .ref arow, .ref abox, .ref awrd, .int (nI rd), .ref ablk, .ref amov, .int (nI za), .int (nI zb), .ref ahA, .ref ahB, .ref ahC, .ref anum, .ref amsg, .ref astr]))] t) (va_A [(mo, .inr (7, [.int (nI th), .int (nI by_), .ref abuf, .int (nI ks), .ref akey, .int (nI ts), .ref atwk, .int (nI rx), .int (nI mn), .ref arow, .ref abox, .ref awrd, .int (nI rd), .ref ablk, .ref amov, .int (nI za), .int (nI zb), .ref ahA, .ref ahB, .ref ahC, .ref anum, .ref amsg, .ref astr]))] sz)) 0 0 (va_A [(mo, .inr (7, [.int (nI th), .int (nI by_), .ref abuf, .int (nI ks), .ref akey, .int (nI ts), .ref atwk, .int (nI rx), .int (nI mn), .ref arow, .ref abox, .ref awrd, .int (nI rd), .ref ablk, .ref amov, .int (nI za), .int (nI zb), .ref ahA, .ref ahB, .ref ahC, .ref anum, .ref amsg, .ref astr]))] sz) := by
  refine Met.ofW (cc := cX8_typed) (maxL := 2) (ret := (some .int)) (by decide) rfl ?_
  intro p e s m args below meth c s₁ B9 hml hv
  obtain ⟨rfl, hsz, ⟨hP, hK, hD0⟩⟩ := hv
  have hx := B9.exec
  have hb := B9.bytes
  have hr := B9.returns
  have hts := atoms_spec (ws := wsX8_typed) B9.pre
  have hown : s.vm.findClass RX8 = some m.cls := findClass_of_methodNamed B9.named
  have hlocks := B9.notSynchronized
  subst hsz
  have hD := hD0.self (sz := s.heap.size)
  generalize hAe : va_A [(mo, .inr (7, [.int (nI th), .int (nI by_), .ref abuf, .int (nI ks), .ref akey, .int (nI ts), .ref atwk, .int (nI rx), .int (nI mn), .ref arow, .ref abox, .ref awrd, .int (nI rd), .ref ablk, .ref amov, .int (nI za), .int (nI zb), .ref ahA, .ref ahB, .ref ahC, .ref anum, .ref amsg, .ref astr]))] s.heap.size = A at hD ⊢
  have hA : ∀ q : Nat, s.heap.size ≤ q → A q := fun q h => by rw [← hAe]; exact Or.inr h
  have hS : va_S A s.heap s.heap [] := va_S.rf
  have hl := lv_entry ([.ref mo, .int x]) (n := 2) (Nat.le_of_ble_eq_true rfl)
  rw [lg_entry_eq]
  generalize (lg_sl ([.ref mo, .int x]) ++ List.replicate (2 - (lg_sl ([.ref mo, .int x])).length) Slot.unset).toArray = ls at hl ⊢
  have hl : lv_has ls 2 [(0, .ref mo), (1, .int x)] := hl
  refine lv_aload_n hx hb dX8_typed_0 rfl (lv_at hl 0 rfl) ?_
  refine lv_iconst (v := nI 0) hx hb dX8_typed_1 (by decide) ?_
  refine gv_put (own := RX8) (D := (dC, dI)) (ci := 7) (C := RX8) (T := TX8) (N := 23) (ws' := [(mo, .inr (7, [.int (nI 0), .int (nI by_), .ref abuf, .int (nI ks), .ref akey, .int (nI ts), .ref atwk, .int (nI rx), .int (nI mn), .ref arow, .ref abox, .ref awrd, .int (nI rd), .ref ablk, .ref amov, .int (nI za), .int (nI zb), .ref ahA, .ref ahB, .ref ahC, .ref anum, .ref amsg, .ref astr]))]) hx hb hts (by decide +kernel) tyX8 tyX8_ok nmX8 hown hK hP hD hS 0 rfl rfl 0 (by decide) (hts (.fieldLink RX8 63 "NumeralCipherModel" "thrown" "I") (by decide +kernel)) rfl rfl (by decide +kernel) (Nat.le_of_ble_eq_true rfl) rfl dX8_typed_2 (fun H locs hP hD hS => ?_)
  refine lv_aload_n hx hb dX8_typed_5 rfl (lv_at hl 0 rfl) ?_
  refine lv_iload_n hx hb dX8_typed_6 rfl (lv_at hl 1 rfl) ?_
  refine lv_i2l (v := x.toInt64) hx hb dX8_typed_7 rfl ?_
  refine lv_lconst (v := lN 0) hx hb dX8_typed_8 (by decide) ?_
  refine lv_aload_n hx hb dX8_typed_9 rfl (lv_at hl 0 rfl) ?_
  refine gv_get (own := RX8) (D := (dC, dI)) (ci := 7) (C := RX8) (T := TX8) (N := 23) (v := .int (nI by_)) hx hb hts (by decide +kernel) hown hK hP 0 rfl rfl 1 (by decide) (hts (.fieldLink RX8 141 "NumeralCipherModel" "bytes" "I") (by decide +kernel)) rfl rfl dX8_typed_10 ?_
  refine lv_iconst (v := nI 1) hx hb dX8_typed_13 (by decide) ?_
  refine lv_isub hx hb dX8_typed_14 ?_
  refine lv_i2l (v := ((nI by_) - (nI 1)).toInt64) hx hb dX8_typed_15 rfl ?_
  refine gv_callR (W.runS (As := [.long x.toInt64, .long (lN 0), .long (((nI by_) - (nI 1)).toInt64)]) (rest := [.ref mo]) ⟨hx, hb, hml, hown, hts⟩ (c_X8_in_0 l x.toInt64 (lN 0) (((nI by_) - (nI 1)).toInt64) (in_raw (pk_lT (by decide)) (in_less (by omega)) (by omega))) (va_cwS 3 hts gX8_typed_X8_in rfl rfl rfl (by decide +kernel) ⟨Nat.le_of_ble_eq_true rfl, Nat.le_of_ble_eq_true rfl⟩) ⟨fun a U g mk q => q, fun U hU hW => ⟨rfl, trivial⟩⟩ rfl rfl hl.1 rfl (lv_room (Nat.le_of_ble_eq_true rfl)) dX8_typed_16 ⟨Nat.zero_le _, Nat.zero_le _⟩) ?_
  refine gv_if_ne (tgt := 26) hx hb dX8_typed_19 (by decide) (by omega) (fun c_19 => ?_) (fun c_19 => ?_)
  ·
    exact absurd c_19 (by decide)
  ·
    refine lv_iconst (v := nI 1) hx hb dX8_typed_22 (by decide) ?_
    refine lv_goto (tgt := 27) hx hb dX8_typed_23 (by decide) ?_
    refine lv_iconst (v := nI 1) hx hb dX8_typed_27 (by decide) ?_
    have hPc := hP.sub (ws' := [(mo, .inr (7, [.int (nI 0), .int (nI by_), .ref abuf, .int (nI ks), .ref akey, .int (nI ts), .ref atwk, .int (nI rx), .int (nI mn), .ref arow, .ref abox, .ref awrd, .int (nI rd), .ref ablk, .ref amov, .int (nI za), .int (nI zb), .ref ahA, .ref ahB, .ref ahC, .ref anum, .ref amsg, .ref astr]))]) [0] rfl
    have hDc := hD.sub (ws' := [(mo, .inr (7, [.int (nI 0), .int (nI by_), .ref abuf, .int (nI ks), .ref akey, .int (nI ts), .ref atwk, .int (nI rx), .int (nI mn), .ref arow, .ref abox, .ref awrd, .int (nI rd), .ref ablk, .ref amov, .int (nI za), .int (nI zb), .ref ahA, .ref ahB, .ref ahC, .ref anum, .ref amsg, .ref astr]))]) [0] (by decide) rfl
    have hFc := va_free (wc := [(mo, .inr (7, [.int (nI 0), .int (nI by_), .ref abuf, .int (nI ks), .ref akey, .int (nI ts), .ref atwk, .int (nI rx), .int (nI mn), .ref arow, .ref abox, .ref awrd, .int (nI rd), .ref ablk, .ref amov, .int (nI za), .int (nI zb), .ref ahA, .ref ahB, .ref ahC, .ref anum, .ref amsg, .ref astr]))]) hD hS hA [0] rfl
    refine va_calli (va_runV (As := [.int (nI 1), .int (nI 1)]) (rest := []) ⟨hx, hb, hml, hown, hts⟩ (c_X8_refuses_1 l dC dI cI H.size mo abuf akey atwk arow abox awrd ablk amov ahA ahB ahC anum amsg astr 0 by_ ks ts rx mn rd za zb 1 (by omega) (by omega)) (cwV 2 hts gX8_typed_X8_refuses rfl rfl rfl (by decide +kernel) ⟨Nat.le_of_ble_eq_true rfl, Nat.le_of_ble_eq_true rfl⟩) ⟨gPc_blind, va_recv hK hPc (ci := 7) (q0 := 0) rfl rfl, gPc_pre hPc hK hDc⟩ rfl rfl hl.1 rfl (lv_room (Nat.le_of_ble_eq_true rfl)) dX8_typed_28 ⟨Nat.zero_le _, Nat.zero_le _⟩) hS (fun q _ h => hFc q h) hFc (fun r9 u8 t8 H1 locs ht hvm hw hB hz1 hk1 hS => ?_)
    try dsimp only at hw hB
    obtain ⟨hP, hD⟩ := gB_join (wr := []) (w2 := [(mo, .inr (7, [.int (nI 1), .int (nI by_), .ref abuf, .int (nI ks), .ref akey, .int (nI ts), .ref atwk, .int (nI rx), .int (nI mn), .ref arow, .ref abox, .ref awrd, .int (nI rd), .ref ablk, .ref amov, .int (nI za), .int (nI zb), .ref ahA, .ref ahB, .ref ahC, .ref anum, .ref amsg, .ref astr]))]) hP hD [0] [] rfl rfl (by decide) (by decide) hk1 hFc ht hB rfl
    clear hk1 hz1 ht hB hvm hPc hDc hFc
    generalize H1 = H at hP hS ⊢
    subst hw
    refine gv_if_eq (tgt := 38) hx hb dX8_typed_31 (by decide) (by omega) (fun c_31 => ?_) (fun c_31 => ?_)
    ·
      exact absurd c_31 (by decide)
    ·
      refine lv_iconst (v := nI 0) hx hb dX8_typed_34 (by decide) ?_
      refine lv_goto (tgt := 44) hx hb dX8_typed_35 (by decide) ?_
      exact W.iret (v := (nI 0)) hx hb hr (fun t ht hW => ⟨⟨_, (), rfl, rfl, gB_end ht hW hP hK hD⟩, hS.F ht⟩) hS.2.2 dX8_typed_44

set_option maxHeartbeats 4000000 in
set_option maxRecDepth 100000 in
/-- key: ok -/
theorem c_X8_key_ok (l : Launch) (dC : Nat → ClassId) (dI : Nat → Nat → Nat) (cI : ClassId) (sz : Nat) (mo : Nat) (abuf : Nat) (akey : Nat) (atwk : Nat) (arow : Nat) (abox : Nat) (awrd : Nat) (ablk : Nat) (amov : Nat) (ahA : Nat) (ahB : Nat) (ahC : Nat) (anum : Nat) (amsg : Nat) (astr : Nat) (th : Nat) (by_ : Nat) (ks : Nat) (ts : Nat) (rx : Nat) (mn : Nat) (rd : Nat) (za : Nat) (zb : Nat) (b0 : Nat → Nat) (k0 : Nat → Nat) (hks : by_ = 16 ∨ by_ = 24 ∨ by_ = 32) : Met l yX8_key wsX8_key ({ frames := 1, cells := 0, slots := 0, locals := 22 }) (gPc dC dI cI [.ref mo] [(mo, .inr (7, [.int (nI th), .int (nI by_), .ref abuf, .int (nI ks), .ref akey, .int (nI ts), .ref atwk, .int (nI rx), .int (nI mn), .ref arow, .ref abox, .ref awrd, .int (nI rd), .ref ablk, .ref amov, .int (nI za), .int (nI zb), .ref ahA, .ref ahB, .ref ahC, .ref anum, .ref amsg, .ref astr])), (abuf, .inl (cI, 64, .inl (gA b0))), (akey, .inl (cI, 32, .inl (gA k0)))] sz) (va_Qi (fun (r : Int32) (u : (Nat → Nat)) => r = (nI (by_ / 4 + 6)) ∧ (∀ q, q < 32 → u q = if q < by_ then b0 q else k0 q)) (fun u t => gB dC dI cI (va_A [(mo, .inr (7, [.int (nI th), .int (nI by_), .ref abuf, .int (nI ks), .ref akey, .int (nI ts), .ref atwk, .int (nI rx), .int (nI mn), .ref arow, .ref abox, .ref awrd, .int (nI rd), .ref ablk, .ref amov, .int (nI za), .int (nI zb), .ref ahA, .ref ahB, .ref ahC, .ref anum, .ref amsg, .ref astr])), (abuf, .inl (cI, 64, .inl (gA b0))), (akey, .inl (cI, 32, .inl (gA k0)))] sz) [(mo, .inr (7, [.int (nI 0), .int (nI 0), .ref abuf, .int (nI by_), .ref akey, .int (nI ts), .ref atwk, .int (nI rx), .int (nI mn), .ref arow, .ref abox, .ref awrd, .int (nI rd), .ref ablk, .ref amov, .int (nI za), .int (nI zb), .ref ahA, .ref ahB, .ref ahC, .ref anum, .ref amsg, .ref astr])), (abuf, .inl (cI, 64, .inl (gA b0))), (akey, .inl (cI, 32, .inl (gA u)))] t) (va_A [(mo, .inr (7, [.int (nI th), .int (nI by_), .ref abuf, .int (nI ks), .ref akey, .int (nI ts), .ref atwk, .int (nI rx), .int (nI mn), .ref arow, .ref abox, .ref awrd, .int (nI rd), .ref ablk, .ref amov, .int (nI za), .int (nI zb), .ref ahA, .ref ahB, .ref ahC, .ref anum, .ref amsg, .ref astr])), (abuf, .inl (cI, 64, .inl (gA b0))), (akey, .inl (cI, 32, .inl (gA k0)))] sz)) 0 0 (va_A [(mo, .inr (7, [.int (nI th), .int (nI by_), .ref abuf, .int (nI ks), .ref akey, .int (nI ts), .ref atwk, .int (nI rx), .int (nI mn), .ref arow, .ref abox, .ref awrd, .int (nI rd), .ref ablk, .ref amov, .int (nI za), .int (nI zb), .ref ahA, .ref ahB, .ref ahC, .ref anum, .ref amsg, .ref astr])), (abuf, .inl (cI, 64, .inl (gA b0))), (akey, .inl (cI, 32, .inl (gA k0)))] sz) := by
  refine Met.ofW (cc := cX8_key) (maxL := 2) (ret := (some .int)) (by decide) rfl ?_
  intro p e s m args below meth c s₁ B9 hml hv
  obtain ⟨rfl, hsz, ⟨hP, hK, hD0⟩⟩ := hv
  have hx := B9.exec
  have hb := B9.bytes
  have hr := B9.returns
  have hts := atoms_spec (ws := wsX8_key) B9.pre
  have hown : s.vm.findClass RX8 = some m.cls := findClass_of_methodNamed B9.named
  have hlocks := B9.notSynchronized
  subst hsz
  have hD := hD0.self (sz := s.heap.size)
  generalize hAe : va_A [(mo, .inr (7, [.int (nI th), .int (nI by_), .ref abuf, .int (nI ks), .ref akey, .int (nI ts), .ref atwk, .int (nI rx), .int (nI mn), .ref arow, .ref abox, .ref awrd, .int (nI rd), .ref ablk, .ref amov, .int (nI za), .int (nI zb), .ref ahA, .ref ahB, .ref ahC, .ref anum, .ref amsg, .ref astr])), (abuf, .inl (cI, 64, .inl (gA b0))), (akey, .inl (cI, 32, .inl (gA k0)))] s.heap.size = A at hD ⊢
  have hA : ∀ q : Nat, s.heap.size ≤ q → A q := fun q h => by rw [← hAe]; exact Or.inr h
  have hS : va_S A s.heap s.heap [] := va_S.rf
  have hl := lv_entry ([.ref mo]) (n := 2) (Nat.le_of_ble_eq_true rfl)
  rw [lg_entry_eq]
  generalize (lg_sl ([.ref mo]) ++ List.replicate (2 - (lg_sl ([.ref mo])).length) Slot.unset).toArray = ls at hl ⊢
  have hl : lv_has ls 2 [(0, .ref mo)] := hl
  refine lv_aload_n hx hb dX8_key_0 rfl (lv_at hl 0 rfl) ?_
  refine lv_iconst (v := nI 0) hx hb dX8_key_1 (by decide) ?_
  refine gv_put (own := RX8) (D := (dC, dI)) (ci := 7) (C := RX8) (T := TX8) (N := 23) (ws' := [(mo, .inr (7, [.int (nI 0), .int (nI by_), .ref abuf, .int (nI ks), .ref akey, .int (nI ts), .ref atwk, .int (nI rx), .int (nI mn), .ref arow, .ref abox, .ref awrd, .int (nI rd), .ref ablk, .ref amov, .int (nI za), .int (nI zb), .ref ahA, .ref ahB, .ref ahC, .ref anum, .ref amsg, .ref astr])), (abuf, .inl (cI, 64, .inl (gA b0))), (akey, .inl (cI, 32, .inl (gA k0)))]) hx hb hts (by decide +kernel) tyX8 tyX8_ok nmX8 hown hK hP hD hS 0 rfl rfl 0 (by decide) (hts (.fieldLink RX8 63 "NumeralCipherModel" "thrown" "I") (by decide +kernel)) rfl rfl (by decide +kernel) (Nat.le_of_ble_eq_true rfl) rfl dX8_key_2 (fun H locs hP hD hS => ?_)
  refine lv_aload_n hx hb dX8_key_5 rfl (lv_at hl 0 rfl) ?_
  refine gw_lab (G := fun R args Q =>  ∀ (H : Heap) (locs : List Loc), va_P (dC, dI) vwCl [(mo, .inr (7, [.int (nI 0), .int (nI by_), .ref abuf, .int (nI ks), .ref akey, .int (nI ts), .ref atwk, .int (nI rx), .int (nI mn), .ref arow, .ref abox, .ref awrd, .int (nI rd), .ref ablk, .ref amov, .int (nI za), .int (nI zb), .ref ahA, .ref ahB, .ref ahC, .ref anum, .ref amsg, .ref astr])), (abuf, .inl (cI, 64, .inl (gA b0))), (akey, .inl (cI, 32, .inl (gA k0)))] H → va_D A [(mo, .inr (7, [.int (nI 0), .int (nI by_), .ref abuf, .int (nI ks), .ref akey, .int (nI ts), .ref atwk, .int (nI rx), .int (nI mn), .ref arow, .ref abox, .ref awrd, .int (nI rd), .ref ablk, .ref amov, .int (nI za), .int (nI zb), .ref ahA, .ref ahB, .ref ahC, .ref anum, .ref amsg, .ref astr])), (abuf, .inl (cI, 64, .inl (gA b0))), (akey, .inl (cI, 32, .inl (gA k0)))] → va_S A s.heap H locs → ∀ (ls : Array Slot), lv_has ls 2 [(0, .ref mo)] → W p l e R s m args below meth c H locs 0 0 Q (F0 m 37 ls [.ref mo])) ?_ (fun L37 => ?_)
  ·
    intro  H locs hP hD hS ls hl
    refine lv_iconst (v := nI 0) hx hb dX8_key_37 (by decide) ?_
    refine lv_iconst (v := nI 1) hx hb dX8_key_38 (by decide) ?_
    have hPc := hP.sub (ws' := [(mo, .inr (7, [.int (nI 0), .int (nI by_), .ref abuf, .int (nI ks), .ref akey, .int (nI ts), .ref atwk, .int (nI rx), .int (nI mn), .ref arow, .ref abox, .ref awrd, .int (nI rd), .ref ablk, .ref amov, .int (nI za), .int (nI zb), .ref ahA, .ref ahB, .ref ahC, .ref anum, .ref amsg, .ref astr]))]) [0] rfl
    have hDc := hD.sub (ws' := [(mo, .inr (7, [.int (nI 0), .int (nI by_), .ref abuf, .int (nI ks), .ref akey, .int (nI ts), .ref atwk, .int (nI rx), .int (nI mn), .ref arow, .ref abox, .ref awrd, .int (nI rd), .ref ablk, .ref amov, .int (nI za), .int (nI zb), .ref ahA, .ref ahB, .ref ahC, .ref anum, .ref amsg, .ref astr]))]) [0] (by decide) rfl
    refine gv_callR (W.runV (As := [.int (nI 0), .int (nI 1)]) (rest := []) ⟨hx, hb, hml, hown, hts⟩ (c_X8_refuses_0 l dC dI cI H.size mo abuf akey atwk arow abox awrd ablk amov ahA ahB ahC anum amsg astr 0 by_ ks ts rx mn rd za zb 1 ) (cwV 2 hts gX8_key_X8_refuses rfl rfl rfl (by decide +kernel) ⟨Nat.le_of_ble_eq_true rfl, Nat.le_of_ble_eq_true rfl⟩) ⟨gPc_blind, va_recv hK hPc (ci := 7) (q0 := 0) rfl rfl, gPc_pre hPc hK hDc⟩ rfl rfl hl.1 rfl (lv_room (Nat.le_of_ble_eq_true rfl)) dX8_key_39 ⟨Nat.zero_le _, Nat.zero_le _⟩) ?_
    clear hPc hDc
    refine gv_if_eq (tgt := 47) hx hb dX8_key_42 (by decide) (by omega) (fun c_42 => ?_) (fun c_42 => ?_)
    ·
      refine lv_aload_n hx hb dX8_key_47 rfl (lv_at hl 0 rfl) ?_
      refine lv_aload_n hx hb dX8_key_48 rfl (lv_at hl 0 rfl) ?_
      refine gv_get (own := RX8) (D := (dC, dI)) (ci := 7) (C := RX8) (T := TX8) (N := 23) (v := .int (nI by_)) hx hb hts (by decide +kernel) hown hK hP 0 rfl rfl 1 (by decide) (hts (.fieldLink RX8 141 "NumeralCipherModel" "bytes" "I") (by decide +kernel)) rfl rfl dX8_key_49 ?_
      refine gv_put (own := RX8) (D := (dC, dI)) (ci := 7) (C := RX8) (T := TX8) (N := 23) (ws' := [(mo, .inr (7, [.int (nI 0), .int (nI by_), .ref abuf, .int (nI by_), .ref akey, .int (nI ts), .ref atwk, .int (nI rx), .int (nI mn), .ref arow, .ref abox, .ref awrd, .int (nI rd), .ref ablk, .ref amov, .int (nI za), .int (nI zb), .ref ahA, .ref ahB, .ref ahC, .ref anum, .ref amsg, .ref astr])), (abuf, .inl (cI, 64, .inl (gA b0))), (akey, .inl (cI, 32, .inl (gA k0)))]) hx hb hts (by decide +kernel) tyX8 tyX8_ok nmX8 hown hK hP hD hS 0 rfl rfl 3 (by decide) (hts (.fieldLink RX8 13 "NumeralCipherModel" "keySize" "I") (by decide +kernel)) rfl rfl (by decide +kernel) (Nat.le_of_ble_eq_true rfl) rfl dX8_key_52 (fun H locs hP hD hS => ?_)
      refine lv_iconst (v := nI 0) hx hb dX8_key_55 (by decide) ?_
      refine lv_istore_n (lv' := [(1, .int (nI 0)), (0, .ref mo)]) hx hb dX8_key_56 rfl hl (by decide) rfl (fun ls hl => ?_)
      refine gw_lab (G := fun R args Q => ∀ (n9_57 : Nat) (i : Nat) (g : Nat → Nat), n9_57 = by_ - i → (i ≤ by_) → (∀ q, q < 32 → g q = if q < i then b0 q else k0 q) → ∀ (H : Heap) (locs : List Loc), va_P (dC, dI) vwCl [(mo, .inr (7, [.int (nI 0), .int (nI by_), .ref abuf, .int (nI by_), .ref akey, .int (nI ts), .ref atwk, .int (nI rx), .int (nI mn), .ref arow, .ref abox, .ref awrd, .int (nI rd), .ref ablk, .ref amov, .int (nI za), .int (nI zb), .ref ahA, .ref ahB, .ref ahC, .ref anum, .ref amsg, .ref astr])), (abuf, .inl (cI, 64, .inl (gA b0))), (akey, .inl (cI, 32, .inl (gA g)))] H → va_D A [(mo, .inr (7, [.int (nI 0), .int (nI by_), .ref abuf, .int (nI by_), .ref akey, .int (nI ts), .ref atwk, .int (nI rx), .int (nI mn), .ref arow, .ref abox, .ref awrd, .int (nI rd), .ref ablk, .ref amov, .int (nI za), .int (nI zb), .ref ahA, .ref ahB, .ref ahC, .ref anum, .ref amsg, .ref astr])), (abuf, .inl (cI, 64, .inl (gA b0))), (akey, .inl (cI, 32, .inl (gA g)))] → va_S A s.heap H locs → ∀ (ls : Array Slot), lv_has ls 2 [(1, .int (nI i)), (0, .ref mo)] → W p l e R s m args below meth c H locs 0 0 Q (F0 m 57 ls [])) ?_ (fun L57 => ?_)
      ·
        intro n9_57
        induction n9_57 using Nat.strongRecOn with
        | ind n9_57 ih9_57 =>
          intro i g hmu9_57 hi hg H locs hP hD hS ls hl
          refine lv_iload_n hx hb dX8_key_57 rfl (lv_at hl 0 rfl) ?_
          refine lv_aload_n hx hb dX8_key_58 rfl (lv_at hl 1 rfl) ?_
          refine gv_get (own := RX8) (D := (dC, dI)) (ci := 7) (C := RX8) (T := TX8) (N := 23) (v := .int (nI by_)) hx hb hts (by decide +kernel) hown hK hP 0 rfl rfl 1 (by decide) (hts (.fieldLink RX8 141 "NumeralCipherModel" "bytes" "I") (by decide +kernel)) rfl rfl dX8_key_59 ?_
          refine gv_icmp_ge (tgt := 83) hx hb dX8_key_62 (by decide) (by omega) (by omega) (fun c_62 => ?_) (fun c_62 => ?_)
          ·
            have e9 : i = by_ := by omega
            rw [e9] at hg
            refine lv_aload_n hx hb dX8_key_83 rfl (lv_at hl 1 rfl) ?_
            refine lv_iconst (v := nI 0) hx hb dX8_key_84 (by decide) ?_
            refine gv_put (own := RX8) (D := (dC, dI)) (ci := 7) (C := RX8) (T := TX8) (N := 23) (ws' := [(mo, .inr (7, [.int (nI 0), .int (nI 0), .ref abuf, .int (nI by_), .ref akey, .int (nI ts), .ref atwk, .int (nI rx), .int (nI mn), .ref arow, .ref abox, .ref awrd, .int (nI rd), .ref ablk, .ref amov, .int (nI za), .int (nI zb), .ref ahA, .ref ahB, .ref ahC, .ref anum, .ref amsg, .ref astr])), (abuf, .inl (cI, 64, .inl (gA b0))), (akey, .inl (cI, 32, .inl (gA g)))]) hx hb hts (by decide +kernel) tyX8 tyX8_ok nmX8 hown hK hP hD hS 0 rfl rfl 1 (by decide) (hts (.fieldLink RX8 141 "NumeralCipherModel" "bytes" "I") (by decide +kernel)) rfl rfl (by decide +kernel) (Nat.le_of_ble_eq_true rfl) rfl dX8_key_85 (fun H locs hP hD hS => ?_)
            refine lv_aload_n hx hb dX8_key_88 rfl (lv_at hl 1 rfl) ?_
            refine gv_get (own := RX8) (D := (dC, dI)) (ci := 7) (C := RX8) (T := TX8) (N := 23) (v := .int (nI by_)) hx hb hts (by decide +kernel) hown hK hP 0 rfl rfl 3 (by decide) (hts (.fieldLink RX8 13 "NumeralCipherModel" "keySize" "I") (by decide +kernel)) rfl rfl dX8_key_89 ?_
            refine lv_iconst (v := nI 4) hx hb dX8_key_92 (by decide) ?_
            refine gv_idiv (r := by_ / 4) hx hb dX8_key_93 (by omega) (by omega) (by omega) rfl ?_
            refine lv_bipush (v := nI 6) hx hb dX8_key_94 (by decide) ?_
            refine gv_iadd (r := (by_ / 4) + 6) hx hb dX8_key_96 rfl ?_
            refine gv_top (y := (nI (by_ / 4 + 6))) (by congr 1) ?_
            exact W.iret (v := (nI (by_ / 4 + 6))) hx hb hr (fun t ht hW => ⟨⟨_, (g), rfl, ⟨rfl, hg⟩, gB_end ht hW hP hK hD⟩, hS.F ht⟩) hS.2.2 dX8_key_97
          ·
            refine lv_aload_n hx hb dX8_key_65 rfl (lv_at hl 1 rfl) ?_
            refine gv_get (own := RX8) (D := (dC, dI)) (ci := 7) (C := RX8) (T := TX8) (N := 23) (v := .ref akey) hx hb hts (by decide +kernel) hown hK hP 0 rfl rfl 4 (by decide) (hts (.fieldLink RX8 17 "NumeralCipherModel" "key" "[I") (by decide +kernel)) rfl rfl dX8_key_66 ?_
            refine lv_iload_n hx hb dX8_key_69 rfl (lv_at hl 0 rfl) ?_
            refine lv_aload_n hx hb dX8_key_70 rfl (lv_at hl 1 rfl) ?_
            refine gv_get (own := RX8) (D := (dC, dI)) (ci := 7) (C := RX8) (T := TX8) (N := 23) (v := .ref abuf) hx hb hts (by decide +kernel) hown hK hP 0 rfl rfl 2 (by decide) (hts (.fieldLink RX8 7 "NumeralCipherModel" "buffer" "[I") (by decide +kernel)) rfl rfl dX8_key_71 ?_
            refine lv_iload_n hx hb dX8_key_74 rfl (lv_at hl 0 rfl) ?_
            refine gv_iald hx hb hK hP 1 0 rfl rfl (by omega) (by omega) dX8_key_75 ?_
            refine gv_iast (ws' := [(mo, .inr (7, [.int (nI 0), .int (nI by_), .ref abuf, .int (nI by_), .ref akey, .int (nI ts), .ref atwk, .int (nI rx), .int (nI mn), .ref arow, .ref abox, .ref awrd, .int (nI rd), .ref ablk, .ref amov, .int (nI za), .int (nI zb), .ref ahA, .ref ahB, .ref ahC, .ref anum, .ref amsg, .ref astr])), (abuf, .inl (cI, 64, .inl (gA b0))), (akey, .inl (cI, 32, .inl (gA (gU g i (b0 i)))))]) hx hb hK hP hD hS 2 0 rfl rfl rfl (by omega) (by omega) dX8_key_76 (fun H locs hP hD hS => ?_)
            refine lv_iinc (v := nI (i + 1)) (lv' := [(1, .int (nI (i + 1))), (0, .ref mo)]) hx hb dX8_key_77 hl (k := 0) rfl (gz_inc1 _) (by decide) rfl (fun ls hl => ?_)
            refine lv_goto (tgt := 57) hx hb dX8_key_80 (by decide) ?_
            exact ih9_57 _ (by omega) (i + 1) (gU g i (b0 i)) rfl (by omega) (fl_s hg rfl) _ _ hP hD hS _ hl
      exact L57 _ 0 k0 rfl (by omega) (fl_0 (fun _ _ => rfl)) _ _ hP hD hS _ hl
    ·
      exact absurd c_42 (by decide)
  refine lv_aload_n hx hb dX8_key_6 rfl (lv_at hl 0 rfl) ?_
  refine gv_get (own := RX8) (D := (dC, dI)) (ci := 7) (C := RX8) (T := TX8) (N := 23) (v := .int (nI by_)) hx hb hts (by decide +kernel) hown hK hP 0 rfl rfl 1 (by decide) (hts (.fieldLink RX8 141 "NumeralCipherModel" "bytes" "I") (by decide +kernel)) rfl rfl dX8_key_7 ?_
  refine lv_bipush (v := nI 16) hx hb dX8_key_10 (by decide) ?_
  refine gv_icmp_eq (tgt := 37) hx hb dX8_key_12 (by decide) (by omega) (by omega) (fun c_12 => ?_) (fun c_12 => ?_)
  ·
    exact L37   _ _ hP hD hS _ hl
  ·
    refine lv_aload_n hx hb dX8_key_15 rfl (lv_at hl 0 rfl) ?_
    refine gv_get (own := RX8) (D := (dC, dI)) (ci := 7) (C := RX8) (T := TX8) (N := 23) (v := .int (nI by_)) hx hb hts (by decide +kernel) hown hK hP 0 rfl rfl 1 (by decide) (hts (.fieldLink RX8 141 "NumeralCipherModel" "bytes" "I") (by decide +kernel)) rfl rfl dX8_key_16 ?_
    refine lv_bipush (v := nI 24) hx hb dX8_key_19 (by decide) ?_
    refine gv_icmp_eq (tgt := 37) hx hb dX8_key_21 (by decide) (by omega) (by omega) (fun c_21 => ?_) (fun c_21 => ?_)
    ·
      exact L37   _ _ hP hD hS _ hl
    ·
      refine lv_aload_n hx hb dX8_key_24 rfl (lv_at hl 0 rfl) ?_
      refine gv_get (own := RX8) (D := (dC, dI)) (ci := 7) (C := RX8) (T := TX8) (N := 23) (v := .int (nI by_)) hx hb hts (by decide +kernel) hown hK hP 0 rfl rfl 1 (by decide) (hts (.fieldLink RX8 141 "NumeralCipherModel" "bytes" "I") (by decide +kernel)) rfl rfl dX8_key_25 ?_
      refine lv_bipush (v := nI 32) hx hb dX8_key_28 (by decide) ?_
      refine gv_icmp_eq (tgt := 37) hx hb dX8_key_30 (by decide) (by omega) (by omega) (fun c_30 => ?_) (fun c_30 => ?_)
      ·
        exact L37   _ _ hP hD hS _ hl
      ·
        exact absurd c_30 (by omega)

set_option maxHeartbeats 4000000 in
set_option maxRecDepth 100000 in
/-- key: b1 -/
theorem c_X8_key_b1 (l : Launch) (dC : Nat → ClassId) (dI : Nat → Nat → Nat) (cI : ClassId) (sz : Nat) (mo : Nat) (abuf : Nat) (akey : Nat) (atwk : Nat) (arow : Nat) (abox : Nat) (awrd : Nat) (ablk : Nat) (amov : Nat) (ahA : Nat) (ahB : Nat) (ahC : Nat) (anum : Nat) (amsg : Nat) (astr : Nat) (th : Nat) (by_ : Nat) (ks : Nat) (ts : Nat) (rx : Nat) (mn : Nat) (rd : Nat) (za : Nat) (zb : Nat) (hb : by_ ≤ 64) (hbad : by_ ≠ 16 ∧ by_ ≠ 24 ∧ by_ ≠ 32) : Met l yX8_key wsX8_key ({ frames := 1, cells := 0, slots := 0, locals := 22 }) (gPc dC dI cI [.ref mo] [(mo, .inr (7, [.int (nI th), .int (nI by_), .ref abuf, .int (nI ks), .ref akey, .int (nI ts), .ref atwk, .int (nI rx), .int (nI mn), .ref arow, .ref abox, .ref awrd, .int (nI rd), .ref ablk, .ref amov, .int (nI za), .int (nI zb), .ref ahA, .ref ahB, .ref ahC, .ref anum, .ref amsg, .ref astr]))] sz) (va_Qi (fun (r : Int32) (_u : Unit) => r = (nI 0)) (fun _u t => gB dC dI cI (va_A [(mo, .inr (7, [.int (nI th), .int (nI by_), .ref abuf, .int (nI ks), .ref akey, .int (nI ts), .ref atwk, .int (nI rx), .int (nI mn), .ref arow, .ref abox, .ref awrd, .int (nI rd), .ref ablk, .ref amov, .int (nI za), .int (nI zb), .ref ahA, .ref ahB, .ref ahC, .ref anum, .ref amsg, .ref astr]))] sz) [(mo, .inr (7, [.int (nI 1), .int (nI by_), .ref abuf, .int (nI ks), .ref akey, .int (nI ts), .ref atwk, .int (nI rx), .int (nI mn), .ref arow, .ref abox, .ref awrd, .int (nI rd), .ref ablk, .ref amov, .int (nI za), .int (nI zb), .ref ahA, .ref ahB, .ref ahC, .ref anum, .ref amsg, .ref astr]))] t) (va_A [(mo, .inr (7, [.int (nI th), .int (nI by_), .ref abuf, .int (nI ks), .ref akey, .int (nI ts), .ref atwk, .int (nI rx), .int (nI mn), .ref arow, .ref abox, .ref awrd, .int (nI rd), .ref ablk, .ref amov, .int (nI za), .int (nI zb), .ref ahA, .ref ahB, .ref ahC, .ref anum, .ref amsg, .ref astr]))] sz)) 0 0 (va_A [(mo, .inr (7, [.int (nI th), .int (nI by_), .ref abuf, .int (nI ks), .ref akey, .int (nI ts), .ref atwk, .int (nI rx), .int (nI mn), .ref arow, .ref abox, .ref awrd, .int (nI rd), .ref ablk, .ref amov, .int (nI za), .int (nI zb), .ref ahA, .ref ahB, .ref ahC, .ref anum, .ref amsg, .ref astr]))] sz) := by
  refine Met.ofW (cc := cX8_key) (maxL := 2) (ret := (some .int)) (by decide) rfl ?_
  intro p e s m args below meth c s₁ B9 hml hv
  obtain ⟨rfl, hsz, ⟨hP, hK, hD0⟩⟩ := hv
  have hx := B9.exec
  have hb := B9.bytes
  have hr := B9.returns
  have hts := atoms_spec (ws := wsX8_key) B9.pre
  have hown : s.vm.findClass RX8 = some m.cls := findClass_of_methodNamed B9.named
  have hlocks := B9.notSynchronized
  subst hsz
  have hD := hD0.self (sz := s.heap.size)
  generalize hAe : va_A [(mo, .inr (7, [.int (nI th), .int (nI by_), .ref abuf, .int (nI ks), .ref akey, .int (nI ts), .ref atwk, .int (nI rx), .int (nI mn), .ref arow, .ref abox, .ref awrd, .int (nI rd), .ref ablk, .ref amov, .int (nI za), .int (nI zb), .ref ahA, .ref ahB, .ref ahC, .ref anum, .ref amsg, .ref astr]))] s.heap.size = A at hD ⊢
  have hA : ∀ q : Nat, s.heap.size ≤ q → A q := fun q h => by rw [← hAe]; exact Or.inr h
  have hS : va_S A s.heap s.heap [] := va_S.rf
  have hl := lv_entry ([.ref mo]) (n := 2) (Nat.le_of_ble_eq_true rfl)
  rw [lg_entry_eq]
  generalize (lg_sl ([.ref mo]) ++ List.replicate (2 - (lg_sl ([.ref mo])).length) Slot.unset).toArray = ls at hl ⊢
  have hl : lv_has ls 2 [(0, .ref mo)] := hl
  refine lv_aload_n hx hb dX8_key_0 rfl (lv_at hl 0 rfl) ?_
  refine lv_iconst (v := nI 0) hx hb dX8_key_1 (by decide) ?_
  refine gv_put (own := RX8) (D := (dC, dI)) (ci := 7) (C := RX8) (T := TX8) (N := 23) (ws' := [(mo, .inr (7, [.int (nI 0), .int (nI by_), .ref abuf, .int (nI ks), .ref akey, .int (nI ts), .ref atwk, .int (nI rx), .int (nI mn), .ref arow, .ref abox, .ref awrd, .int (nI rd), .ref ablk, .ref amov, .int (nI za), .int (nI zb), .ref ahA, .ref ahB, .ref ahC, .ref anum, .ref amsg, .ref astr]))]) hx hb hts (by decide +kernel) tyX8 tyX8_ok nmX8 hown hK hP hD hS 0 rfl rfl 0 (by decide) (hts (.fieldLink RX8 63 "NumeralCipherModel" "thrown" "I") (by decide +kernel)) rfl rfl (by decide +kernel) (Nat.le_of_ble_eq_true rfl) rfl dX8_key_2 (fun H locs hP hD hS => ?_)
  refine lv_aload_n hx hb dX8_key_5 rfl (lv_at hl 0 rfl) ?_
  refine lv_aload_n hx hb dX8_key_6 rfl (lv_at hl 0 rfl) ?_
  refine gv_get (own := RX8) (D := (dC, dI)) (ci := 7) (C := RX8) (T := TX8) (N := 23) (v := .int (nI by_)) hx hb hts (by decide +kernel) hown hK hP 0 rfl rfl 1 (by decide) (hts (.fieldLink RX8 141 "NumeralCipherModel" "bytes" "I") (by decide +kernel)) rfl rfl dX8_key_7 ?_
  refine lv_bipush (v := nI 16) hx hb dX8_key_10 (by decide) ?_
  refine gv_icmp_eq (tgt := 37) hx hb dX8_key_12 (by decide) (by omega) (by omega) (fun c_12 => ?_) (fun c_12 => ?_)
  ·
    exact absurd c_12 (by omega)
  ·
    refine lv_aload_n hx hb dX8_key_15 rfl (lv_at hl 0 rfl) ?_
    refine gv_get (own := RX8) (D := (dC, dI)) (ci := 7) (C := RX8) (T := TX8) (N := 23) (v := .int (nI by_)) hx hb hts (by decide +kernel) hown hK hP 0 rfl rfl 1 (by decide) (hts (.fieldLink RX8 141 "NumeralCipherModel" "bytes" "I") (by decide +kernel)) rfl rfl dX8_key_16 ?_
    refine lv_bipush (v := nI 24) hx hb dX8_key_19 (by decide) ?_
    refine gv_icmp_eq (tgt := 37) hx hb dX8_key_21 (by decide) (by omega) (by omega) (fun c_21 => ?_) (fun c_21 => ?_)
    ·
      exact absurd c_21 (by omega)
    ·
      refine lv_aload_n hx hb dX8_key_24 rfl (lv_at hl 0 rfl) ?_
      refine gv_get (own := RX8) (D := (dC, dI)) (ci := 7) (C := RX8) (T := TX8) (N := 23) (v := .int (nI by_)) hx hb hts (by decide +kernel) hown hK hP 0 rfl rfl 1 (by decide) (hts (.fieldLink RX8 141 "NumeralCipherModel" "bytes" "I") (by decide +kernel)) rfl rfl dX8_key_25 ?_
      refine lv_bipush (v := nI 32) hx hb dX8_key_28 (by decide) ?_
      refine gv_icmp_eq (tgt := 37) hx hb dX8_key_30 (by decide) (by omega) (by omega) (fun c_30 => ?_) (fun c_30 => ?_)
      ·
        exact absurd c_30 (by omega)
      ·
        refine lv_iconst (v := nI 1) hx hb dX8_key_33 (by decide) ?_
        refine lv_goto (tgt := 38) hx hb dX8_key_34 (by decide) ?_
        refine lv_iconst (v := nI 1) hx hb dX8_key_38 (by decide) ?_
        have hPc := hP.sub (ws' := [(mo, .inr (7, [.int (nI 0), .int (nI by_), .ref abuf, .int (nI ks), .ref akey, .int (nI ts), .ref atwk, .int (nI rx), .int (nI mn), .ref arow, .ref abox, .ref awrd, .int (nI rd), .ref ablk, .ref amov, .int (nI za), .int (nI zb), .ref ahA, .ref ahB, .ref ahC, .ref anum, .ref amsg, .ref astr]))]) [0] rfl
        have hDc := hD.sub (ws' := [(mo, .inr (7, [.int (nI 0), .int (nI by_), .ref abuf, .int (nI ks), .ref akey, .int (nI ts), .ref atwk, .int (nI rx), .int (nI mn), .ref arow, .ref abox, .ref awrd, .int (nI rd), .ref ablk, .ref amov, .int (nI za), .int (nI zb), .ref ahA, .ref ahB, .ref ahC, .ref anum, .ref amsg, .ref astr]))]) [0] (by decide) rfl
        have hFc := va_free (wc := [(mo, .inr (7, [.int (nI 0), .int (nI by_), .ref abuf, .int (nI ks), .ref akey, .int (nI ts), .ref atwk, .int (nI rx), .int (nI mn), .ref arow, .ref abox, .ref awrd, .int (nI rd), .ref ablk, .ref amov, .int (nI za), .int (nI zb), .ref ahA, .ref ahB, .ref ahC, .ref anum, .ref amsg, .ref astr]))]) hD hS hA [0] rfl
        refine va_calli (va_runV (As := [.int (nI 1), .int (nI 1)]) (rest := []) ⟨hx, hb, hml, hown, hts⟩ (c_X8_refuses_1 l dC dI cI H.size mo abuf akey atwk arow abox awrd ablk amov ahA ahB ahC anum amsg astr 0 by_ ks ts rx mn rd za zb 1 (by omega) (by omega)) (cwV 2 hts gX8_key_X8_refuses rfl rfl rfl (by decide +kernel) ⟨Nat.le_of_ble_eq_true rfl, Nat.le_of_ble_eq_true rfl⟩) ⟨gPc_blind, va_recv hK hPc (ci := 7) (q0 := 0) rfl rfl, gPc_pre hPc hK hDc⟩ rfl rfl hl.1 rfl (lv_room (Nat.le_of_ble_eq_true rfl)) dX8_key_39 ⟨Nat.zero_le _, Nat.zero_le _⟩) hS (fun q _ h => hFc q h) hFc (fun r9 u8 t8 H1 locs ht hvm hw hB hz1 hk1 hS => ?_)
        try dsimp only at hw hB
        obtain ⟨hP, hD⟩ := gB_join (wr := []) (w2 := [(mo, .inr (7, [.int (nI 1), .int (nI by_), .ref abuf, .int (nI ks), .ref akey, .int (nI ts), .ref atwk, .int (nI rx), .int (nI mn), .ref arow, .ref abox, .ref awrd, .int (nI rd), .ref ablk, .ref amov, .int (nI za), .int (nI zb), .ref ahA, .ref ahB, .ref ahC, .ref anum, .ref amsg, .ref astr]))]) hP hD [0] [] rfl rfl (by decide) (by decide) hk1 hFc ht hB rfl
        clear hk1 hz1 ht hB hvm hPc hDc hFc
        generalize H1 = H at hP hS ⊢
        subst hw
        refine gv_if_eq (tgt := 47) hx hb dX8_key_42 (by decide) (by omega) (fun c_42 => ?_) (fun c_42 => ?_)
        ·
          exact absurd c_42 (by decide)
        ·
          refine lv_iconst (v := nI 0) hx hb dX8_key_45 (by decide) ?_
          exact W.iret (v := (nI 0)) hx hb hr (fun t ht hW => ⟨⟨_, (), rfl, rfl, gB_end ht hW hP hK hD⟩, hS.F ht⟩) hS.2.2 dX8_key_46

set_option maxHeartbeats 4000000 in
set_option maxRecDepth 100000 in
/-- tweak: ok -/
theorem c_X8_tweak_ok (l : Launch) (dC : Nat → ClassId) (dI : Nat → Nat → Nat) (cI : ClassId) (sz : Nat) (mo : Nat) (abuf : Nat) (akey : Nat) (atwk : Nat) (arow : Nat) (abox : Nat) (awrd : Nat) (ablk : Nat) (amov : Nat) (ahA : Nat) (ahB : Nat) (ahC : Nat) (anum : Nat) (amsg : Nat) (astr : Nat) (th : Nat) (by_ : Nat) (ks : Nat) (ts : Nat) (rx : Nat) (mn : Nat) (rd : Nat) (za : Nat) (zb : Nat) (b0 : Nat → Nat) (k0 : Nat → Nat) (hb : by_ ≤ 32) : Met l yX8_tweak wsX8_tweak ({ frames := 1, cells := 0, slots := 0, locals := 22 }) (gPc dC dI cI [.ref mo] [(mo, .inr (7, [.int (nI th), .int (nI by_), .ref abuf, .int (nI ks), .ref akey, .int (nI ts), .ref atwk, .int (nI rx), .int (nI mn), .ref arow, .ref abox, .ref awrd, .int (nI rd), .ref ablk, .ref amov, .int (nI za), .int (nI zb), .ref ahA, .ref ahB, .ref ahC, .ref anum, .ref amsg, .ref astr])), (abuf, .inl (cI, 64, .inl (gA b0))), (atwk, .inl (cI, 32, .inl (gA k0)))] sz) (va_Qi (fun (r : Int32) (u : (Nat → Nat)) => r = (nI by_) ∧ (∀ q, q < 32 → u q = if q < by_ then b0 q else k0 q)) (fun u t => gB dC dI cI (va_A [(mo, .inr (7, [.int (nI th), .int (nI by_), .ref abuf, .int (nI ks), .ref akey, .int (nI ts), .ref atwk, .int (nI rx), .int (nI mn), .ref arow, .ref abox, .ref awrd, .int (nI rd), .ref ablk, .ref amov, .int (nI za), .int (nI zb), .ref ahA, .ref ahB, .ref ahC, .ref anum, .ref amsg, .ref astr])), (abuf, .inl (cI, 64, .inl (gA b0))), (atwk, .inl (cI, 32, .inl (gA k0)))] sz) [(mo, .inr (7, [.int (nI 0), .int (nI 0), .ref abuf, .int (nI ks), .ref akey, .int (nI by_), .ref atwk, .int (nI rx), .int (nI mn), .ref arow, .ref abox, .ref awrd, .int (nI rd), .ref ablk, .ref amov, .int (nI za), .int (nI zb), .ref ahA, .ref ahB, .ref ahC, .ref anum, .ref amsg, .ref astr])), (abuf, .inl (cI, 64, .inl (gA b0))), (atwk, .inl (cI, 32, .inl (gA u)))] t) (va_A [(mo, .inr (7, [.int (nI th), .int (nI by_), .ref abuf, .int (nI ks), .ref akey, .int (nI ts), .ref atwk, .int (nI rx), .int (nI mn), .ref arow, .ref abox, .ref awrd, .int (nI rd), .ref ablk, .ref amov, .int (nI za), .int (nI zb), .ref ahA, .ref ahB, .ref ahC, .ref anum, .ref amsg, .ref astr])), (abuf, .inl (cI, 64, .inl (gA b0))), (atwk, .inl (cI, 32, .inl (gA k0)))] sz)) 0 0 (va_A [(mo, .inr (7, [.int (nI th), .int (nI by_), .ref abuf, .int (nI ks), .ref akey, .int (nI ts), .ref atwk, .int (nI rx), .int (nI mn), .ref arow, .ref abox, .ref awrd, .int (nI rd), .ref ablk, .ref amov, .int (nI za), .int (nI zb), .ref ahA, .ref ahB, .ref ahC, .ref anum, .ref amsg, .ref astr])), (abuf, .inl (cI, 64, .inl (gA b0))), (atwk, .inl (cI, 32, .inl (gA k0)))] sz) := by
  refine Met.ofW (cc := cX8_tweak) (maxL := 2) (ret := (some .int)) (by decide) rfl ?_
  intro p e s m args below meth c s₁ B9 hml hv
  obtain ⟨rfl, hsz, ⟨hP, hK, hD0⟩⟩ := hv
  have hx := B9.exec
  have hb := B9.bytes
  have hr := B9.returns
  have hts := atoms_spec (ws := wsX8_tweak) B9.pre
  have hown : s.vm.findClass RX8 = some m.cls := findClass_of_methodNamed B9.named
  have hlocks := B9.notSynchronized
  subst hsz
  have hD := hD0.self (sz := s.heap.size)
  generalize hAe : va_A [(mo, .inr (7, [.int (nI th), .int (nI by_), .ref abuf, .int (nI ks), .ref akey, .int (nI ts), .ref atwk, .int (nI rx), .int (nI mn), .ref arow, .ref abox, .ref awrd, .int (nI rd), .ref ablk, .ref amov, .int (nI za), .int (nI zb), .ref ahA, .ref ahB, .ref ahC, .ref anum, .ref amsg, .ref astr])), (abuf, .inl (cI, 64, .inl (gA b0))), (atwk, .inl (cI, 32, .inl (gA k0)))] s.heap.size = A at hD ⊢
  have hA : ∀ q : Nat, s.heap.size ≤ q → A q := fun q h => by rw [← hAe]; exact Or.inr h
  have hS : va_S A s.heap s.heap [] := va_S.rf
  have hl := lv_entry ([.ref mo]) (n := 2) (Nat.le_of_ble_eq_true rfl)
  rw [lg_entry_eq]
  generalize (lg_sl ([.ref mo]) ++ List.replicate (2 - (lg_sl ([.ref mo])).length) Slot.unset).toArray = ls at hl ⊢
  have hl : lv_has ls 2 [(0, .ref mo)] := hl
  refine lv_aload_n hx hb dX8_tweak_0 rfl (lv_at hl 0 rfl) ?_
  refine lv_iconst (v := nI 0) hx hb dX8_tweak_1 (by decide) ?_
  refine gv_put (own := RX8) (D := (dC, dI)) (ci := 7) (C := RX8) (T := TX8) (N := 23) (ws' := [(mo, .inr (7, [.int (nI 0), .int (nI by_), .ref abuf, .int (nI ks), .ref akey, .int (nI ts), .ref atwk, .int (nI rx), .int (nI mn), .ref arow, .ref abox, .ref awrd, .int (nI rd), .ref ablk, .ref amov, .int (nI za), .int (nI zb), .ref ahA, .ref ahB, .ref ahC, .ref anum, .ref amsg, .ref astr])), (abuf, .inl (cI, 64, .inl (gA b0))), (atwk, .inl (cI, 32, .inl (gA k0)))]) hx hb hts (by decide +kernel) tyX8 tyX8_ok nmX8 hown hK hP hD hS 0 rfl rfl 0 (by decide) (hts (.fieldLink RX8 63 "NumeralCipherModel" "thrown" "I") (by decide +kernel)) rfl rfl (by decide +kernel) (Nat.le_of_ble_eq_true rfl) rfl dX8_tweak_2 (fun H locs hP hD hS => ?_)
  refine lv_aload_n hx hb dX8_tweak_5 rfl (lv_at hl 0 rfl) ?_
  refine lv_aload_n hx hb dX8_tweak_6 rfl (lv_at hl 0 rfl) ?_
  refine gv_get (own := RX8) (D := (dC, dI)) (ci := 7) (C := RX8) (T := TX8) (N := 23) (v := .int (nI by_)) hx hb hts (by decide +kernel) hown hK hP 0 rfl rfl 1 (by decide) (hts (.fieldLink RX8 141 "NumeralCipherModel" "bytes" "I") (by decide +kernel)) rfl rfl dX8_tweak_7 ?_
  refine lv_bipush (v := nI 32) hx hb dX8_tweak_10 (by decide) ?_
  refine gv_icmp_le (tgt := 19) hx hb dX8_tweak_12 (by decide) (by omega) (by omega) (fun c_12 => ?_) (fun c_12 => ?_)
  ·
    refine lv_iconst (v := nI 0) hx hb dX8_tweak_19 (by decide) ?_
    refine lv_iconst (v := nI 1) hx hb dX8_tweak_20 (by decide) ?_
    have hPc := hP.sub (ws' := [(mo, .inr (7, [.int (nI 0), .int (nI by_), .ref abuf, .int (nI ks), .ref akey, .int (nI ts), .ref atwk, .int (nI rx), .int (nI mn), .ref arow, .ref abox, .ref awrd, .int (nI rd), .ref ablk, .ref amov, .int (nI za), .int (nI zb), .ref ahA, .ref ahB, .ref ahC, .ref anum, .ref amsg, .ref astr]))]) [0] rfl
    have hDc := hD.sub (ws' := [(mo, .inr (7, [.int (nI 0), .int (nI by_), .ref abuf, .int (nI ks), .ref akey, .int (nI ts), .ref atwk, .int (nI rx), .int (nI mn), .ref arow, .ref abox, .ref awrd, .int (nI rd), .ref ablk, .ref amov, .int (nI za), .int (nI zb), .ref ahA, .ref ahB, .ref ahC, .ref anum, .ref amsg, .ref astr]))]) [0] (by decide) rfl
    refine gv_callR (W.runV (As := [.int (nI 0), .int (nI 1)]) (rest := []) ⟨hx, hb, hml, hown, hts⟩ (c_X8_refuses_0 l dC dI cI H.size mo abuf akey atwk arow abox awrd ablk amov ahA ahB ahC anum amsg astr 0 by_ ks ts rx mn rd za zb 1 ) (cwV 2 hts gX8_tweak_X8_refuses rfl rfl rfl (by decide +kernel) ⟨Nat.le_of_ble_eq_true rfl, Nat.le_of_ble_eq_true rfl⟩) ⟨gPc_blind, va_recv hK hPc (ci := 7) (q0 := 0) rfl rfl, gPc_pre hPc hK hDc⟩ rfl rfl hl.1 rfl (lv_room (Nat.le_of_ble_eq_true rfl)) dX8_tweak_21 ⟨Nat.zero_le _, Nat.zero_le _⟩) ?_
    clear hPc hDc
    refine gv_if_eq (tgt := 29) hx hb dX8_tweak_24 (by decide) (by omega) (fun c_24 => ?_) (fun c_24 => ?_)
    ·
      refine lv_aload_n hx hb dX8_tweak_29 rfl (lv_at hl 0 rfl) ?_
      refine lv_aload_n hx hb dX8_tweak_30 rfl (lv_at hl 0 rfl) ?_
      refine gv_get (own := RX8) (D := (dC, dI)) (ci := 7) (C := RX8) (T := TX8) (N := 23) (v := .int (nI by_)) hx hb hts (by decide +kernel) hown hK hP 0 rfl rfl 1 (by decide) (hts (.fieldLink RX8 141 "NumeralCipherModel" "bytes" "I") (by decide +kernel)) rfl rfl dX8_tweak_31 ?_
      refine gv_put (own := RX8) (D := (dC, dI)) (ci := 7) (C := RX8) (T := TX8) (N := 23) (ws' := [(mo, .inr (7, [.int (nI 0), .int (nI by_), .ref abuf, .int (nI ks), .ref akey, .int (nI by_), .ref atwk, .int (nI rx), .int (nI mn), .ref arow, .ref abox, .ref awrd, .int (nI rd), .ref ablk, .ref amov, .int (nI za), .int (nI zb), .ref ahA, .ref ahB, .ref ahC, .ref anum, .ref amsg, .ref astr])), (abuf, .inl (cI, 64, .inl (gA b0))), (atwk, .inl (cI, 32, .inl (gA k0)))]) hx hb hts (by decide +kernel) tyX8 tyX8_ok nmX8 hown hK hP hD hS 0 rfl rfl 5 (by decide) (hts (.fieldLink RX8 95 "NumeralCipherModel" "tweakSize" "I") (by decide +kernel)) rfl rfl (by decide +kernel) (Nat.le_of_ble_eq_true rfl) rfl dX8_tweak_34 (fun H locs hP hD hS => ?_)
      refine lv_iconst (v := nI 0) hx hb dX8_tweak_37 (by decide) ?_
      refine lv_istore_n (lv' := [(1, .int (nI 0)), (0, .ref mo)]) hx hb dX8_tweak_38 rfl hl (by decide) rfl (fun ls hl => ?_)
      refine gw_lab (G := fun R args Q => ∀ (n9_39 : Nat) (i : Nat) (g : Nat → Nat), n9_39 = by_ - i → (i ≤ by_) → (∀ q, q < 32 → g q = if q < i then b0 q else k0 q) → ∀ (H : Heap) (locs : List Loc), va_P (dC, dI) vwCl [(mo, .inr (7, [.int (nI 0), .int (nI by_), .ref abuf, .int (nI ks), .ref akey, .int (nI by_), .ref atwk, .int (nI rx), .int (nI mn), .ref arow, .ref abox, .ref awrd, .int (nI rd), .ref ablk, .ref amov, .int (nI za), .int (nI zb), .ref ahA, .ref ahB, .ref ahC, .ref anum, .ref amsg, .ref astr])), (abuf, .inl (cI, 64, .inl (gA b0))), (atwk, .inl (cI, 32, .inl (gA g)))] H → va_D A [(mo, .inr (7, [.int (nI 0), .int (nI by_), .ref abuf, .int (nI ks), .ref akey, .int (nI by_), .ref atwk, .int (nI rx), .int (nI mn), .ref arow, .ref abox, .ref awrd, .int (nI rd), .ref ablk, .ref amov, .int (nI za), .int (nI zb), .ref ahA, .ref ahB, .ref ahC, .ref anum, .ref amsg, .ref astr])), (abuf, .inl (cI, 64, .inl (gA b0))), (atwk, .inl (cI, 32, .inl (gA g)))] → va_S A s.heap H locs → ∀ (ls : Array Slot), lv_has ls 2 [(1, .int (nI i)), (0, .ref mo)] → W p l e R s m args below meth c H locs 0 0 Q (F0 m 39 ls [])) ?_ (fun L39 => ?_)
      ·
        intro n9_39
        induction n9_39 using Nat.strongRecOn with
        | ind n9_39 ih9_39 =>
          intro i g hmu9_39 hi hg H locs hP hD hS ls hl
          refine lv_iload_n hx hb dX8_tweak_39 rfl (lv_at hl 0 rfl) ?_
          refine lv_aload_n hx hb dX8_tweak_40 rfl (lv_at hl 1 rfl) ?_
          refine gv_get (own := RX8) (D := (dC, dI)) (ci := 7) (C := RX8) (T := TX8) (N := 23) (v := .int (nI by_)) hx hb hts (by decide +kernel) hown hK hP 0 rfl rfl 1 (by decide) (hts (.fieldLink RX8 141 "NumeralCipherModel" "bytes" "I") (by decide +kernel)) rfl rfl dX8_tweak_41 ?_
          refine gv_icmp_ge (tgt := 65) hx hb dX8_tweak_44 (by decide) (by omega) (by omega) (fun c_44 => ?_) (fun c_44 => ?_)
          ·
            have e9 : i = by_ := by omega
            rw [e9] at hg
            refine lv_aload_n hx hb dX8_tweak_65 rfl (lv_at hl 1 rfl) ?_
            refine lv_iconst (v := nI 0) hx hb dX8_tweak_66 (by decide) ?_
            refine gv_put (own := RX8) (D := (dC, dI)) (ci := 7) (C := RX8) (T := TX8) (N := 23) (ws' := [(mo, .inr (7, [.int (nI 0), .int (nI 0), .ref abuf, .int (nI ks), .ref akey, .int (nI by_), .ref atwk, .int (nI rx), .int (nI mn), .ref arow, .ref abox, .ref awrd, .int (nI rd), .ref ablk, .ref amov, .int (nI za), .int (nI zb), .ref ahA, .ref ahB, .ref ahC, .ref anum, .ref amsg, .ref astr])), (abuf, .inl (cI, 64, .inl (gA b0))), (atwk, .inl (cI, 32, .inl (gA g)))]) hx hb hts (by decide +kernel) tyX8 tyX8_ok nmX8 hown hK hP hD hS 0 rfl rfl 1 (by decide) (hts (.fieldLink RX8 141 "NumeralCipherModel" "bytes" "I") (by decide +kernel)) rfl rfl (by decide +kernel) (Nat.le_of_ble_eq_true rfl) rfl dX8_tweak_67 (fun H locs hP hD hS => ?_)
            refine lv_aload_n hx hb dX8_tweak_70 rfl (lv_at hl 1 rfl) ?_
            refine gv_get (own := RX8) (D := (dC, dI)) (ci := 7) (C := RX8) (T := TX8) (N := 23) (v := .int (nI by_)) hx hb hts (by decide +kernel) hown hK hP 0 rfl rfl 5 (by decide) (hts (.fieldLink RX8 95 "NumeralCipherModel" "tweakSize" "I") (by decide +kernel)) rfl rfl dX8_tweak_71 ?_
            exact W.iret (v := (nI by_)) hx hb hr (fun t ht hW => ⟨⟨_, (g), rfl, ⟨rfl, hg⟩, gB_end ht hW hP hK hD⟩, hS.F ht⟩) hS.2.2 dX8_tweak_74
          ·
            refine lv_aload_n hx hb dX8_tweak_47 rfl (lv_at hl 1 rfl) ?_
            refine gv_get (own := RX8) (D := (dC, dI)) (ci := 7) (C := RX8) (T := TX8) (N := 23) (v := .ref atwk) hx hb hts (by decide +kernel) hown hK hP 0 rfl rfl 6 (by decide) (hts (.fieldLink RX8 20 "NumeralCipherModel" "tweak" "[I") (by decide +kernel)) rfl rfl dX8_tweak_48 ?_
            refine lv_iload_n hx hb dX8_tweak_51 rfl (lv_at hl 0 rfl) ?_
            refine lv_aload_n hx hb dX8_tweak_52 rfl (lv_at hl 1 rfl) ?_
            refine gv_get (own := RX8) (D := (dC, dI)) (ci := 7) (C := RX8) (T := TX8) (N := 23) (v := .ref abuf) hx hb hts (by decide +kernel) hown hK hP 0 rfl rfl 2 (by decide) (hts (.fieldLink RX8 7 "NumeralCipherModel" "buffer" "[I") (by decide +kernel)) rfl rfl dX8_tweak_53 ?_
            refine lv_iload_n hx hb dX8_tweak_56 rfl (lv_at hl 0 rfl) ?_
            refine gv_iald hx hb hK hP 1 0 rfl rfl (by omega) (by omega) dX8_tweak_57 ?_
            refine gv_iast (ws' := [(mo, .inr (7, [.int (nI 0), .int (nI by_), .ref abuf, .int (nI ks), .ref akey, .int (nI by_), .ref atwk, .int (nI rx), .int (nI mn), .ref arow, .ref abox, .ref awrd, .int (nI rd), .ref ablk, .ref amov, .int (nI za), .int (nI zb), .ref ahA, .ref ahB, .ref ahC, .ref anum, .ref amsg, .ref astr])), (abuf, .inl (cI, 64, .inl (gA b0))), (atwk, .inl (cI, 32, .inl (gA (gU g i (b0 i)))))]) hx hb hK hP hD hS 2 0 rfl rfl rfl (by omega) (by omega) dX8_tweak_58 (fun H locs hP hD hS => ?_)
            refine lv_iinc (v := nI (i + 1)) (lv' := [(1, .int (nI (i + 1))), (0, .ref mo)]) hx hb dX8_tweak_59 hl (k := 0) rfl (gz_inc1 _) (by decide) rfl (fun ls hl => ?_)
            refine lv_goto (tgt := 39) hx hb dX8_tweak_62 (by decide) ?_
            exact ih9_39 _ (by omega) (i + 1) (gU g i (b0 i)) rfl (by omega) (fl_s hg rfl) _ _ hP hD hS _ hl
      exact L39 _ 0 k0 rfl (by omega) (fl_0 (fun _ _ => rfl)) _ _ hP hD hS _ hl
    ·
      exact absurd c_24 (by decide)
  ·
    exact absurd c_12 (by omega)

set_option maxHeartbeats 4000000 in
set_option maxRecDepth 100000 in
/-- tweak: b1 -/
theorem c_X8_tweak_b1 (l : Launch) (dC : Nat → ClassId) (dI : Nat → Nat → Nat) (cI : ClassId) (sz : Nat) (mo : Nat) (abuf : Nat) (akey : Nat) (atwk : Nat) (arow : Nat) (abox : Nat) (awrd : Nat) (ablk : Nat) (amov : Nat) (ahA : Nat) (ahB : Nat) (ahC : Nat) (anum : Nat) (amsg : Nat) (astr : Nat) (th : Nat) (by_ : Nat) (ks : Nat) (ts : Nat) (rx : Nat) (mn : Nat) (rd : Nat) (za : Nat) (zb : Nat) (hb : by_ ≤ 64) (hbad : 32 < by_) : Met l yX8_tweak wsX8_tweak ({ frames := 1, cells := 0, slots := 0, locals := 22 }) (gPc dC dI cI [.ref mo] [(mo, .inr (7, [.int (nI th), .int (nI by_), .ref abuf, .int (nI ks), .ref akey, .int (nI ts), .ref atwk, .int (nI rx), .int (nI mn), .ref arow, .ref abox, .ref awrd, .int (nI rd), .ref ablk, .ref amov, .int (nI za), .int (nI zb), .ref ahA, .ref ahB, .ref ahC, .ref anum, .ref amsg, .ref astr]))] sz) (va_Qi (fun (r : Int32) (_u : Unit) => r = (nI 0)) (fun _u t => gB dC dI cI (va_A [(mo, .inr (7, [.int (nI th), .int (nI by_), .ref abuf, .int (nI ks), .ref akey, .int (nI ts), .ref atwk, .int (nI rx), .int (nI mn), .ref arow, .ref abox, .ref awrd, .int (nI rd), .ref ablk, .ref amov, .int (nI za), .int (nI zb), .ref ahA, .ref ahB, .ref ahC, .ref anum, .ref amsg, .ref astr]))] sz) [(mo, .inr (7, [.int (nI 1), .int (nI by_), .ref abuf, .int (nI ks), .ref akey, .int (nI ts), .ref atwk, .int (nI rx), .int (nI mn), .ref arow, .ref abox, .ref awrd, .int (nI rd), .ref ablk, .ref amov, .int (nI za), .int (nI zb), .ref ahA, .ref ahB, .ref ahC, .ref anum, .ref amsg, .ref astr]))] t) (va_A [(mo, .inr (7, [.int (nI th), .int (nI by_), .ref abuf, .int (nI ks), .ref akey, .int (nI ts), .ref atwk, .int (nI rx), .int (nI mn), .ref arow, .ref abox, .ref awrd, .int (nI rd), .ref ablk, .ref amov, .int (nI za), .int (nI zb), .ref ahA, .ref ahB, .ref ahC, .ref anum, .ref amsg, .ref astr]))] sz)) 0 0 (va_A [(mo, .inr (7, [.int (nI th), .int (nI by_), .ref abuf, .int (nI ks), .ref akey, .int (nI ts), .ref atwk, .int (nI rx), .int (nI mn), .ref arow, .ref abox, .ref awrd, .int (nI rd), .ref ablk, .ref amov, .int (nI za), .int (nI zb), .ref ahA, .ref ahB, .ref ahC, .ref anum, .ref amsg, .ref astr]))] sz) := by
  refine Met.ofW (cc := cX8_tweak) (maxL := 2) (ret := (some .int)) (by decide) rfl ?_
  intro p e s m args below meth c s₁ B9 hml hv
  obtain ⟨rfl, hsz, ⟨hP, hK, hD0⟩⟩ := hv
  have hx := B9.exec
  have hb := B9.bytes
  have hr := B9.returns
  have hts := atoms_spec (ws := wsX8_tweak) B9.pre
  have hown : s.vm.findClass RX8 = some m.cls := findClass_of_methodNamed B9.named
  have hlocks := B9.notSynchronized
  subst hsz
  have hD := hD0.self (sz := s.heap.size)
  generalize hAe : va_A [(mo, .inr (7, [.int (nI th), .int (nI by_), .ref abuf, .int (nI ks), .ref akey, .int (nI ts), .ref atwk, .int (nI rx), .int (nI mn), .ref arow, .ref abox, .ref awrd, .int (nI rd), .ref ablk, .ref amov, .int (nI za), .int (nI zb), .ref ahA, .ref ahB, .ref ahC, .ref anum, .ref amsg, .ref astr]))] s.heap.size = A at hD ⊢
  have hA : ∀ q : Nat, s.heap.size ≤ q → A q := fun q h => by rw [← hAe]; exact Or.inr h
  have hS : va_S A s.heap s.heap [] := va_S.rf
  have hl := lv_entry ([.ref mo]) (n := 2) (Nat.le_of_ble_eq_true rfl)
  rw [lg_entry_eq]
  generalize (lg_sl ([.ref mo]) ++ List.replicate (2 - (lg_sl ([.ref mo])).length) Slot.unset).toArray = ls at hl ⊢
  have hl : lv_has ls 2 [(0, .ref mo)] := hl
  refine lv_aload_n hx hb dX8_tweak_0 rfl (lv_at hl 0 rfl) ?_
  refine lv_iconst (v := nI 0) hx hb dX8_tweak_1 (by decide) ?_
  refine gv_put (own := RX8) (D := (dC, dI)) (ci := 7) (C := RX8) (T := TX8) (N := 23) (ws' := [(mo, .inr (7, [.int (nI 0), .int (nI by_), .ref abuf, .int (nI ks), .ref akey, .int (nI ts), .ref atwk, .int (nI rx), .int (nI mn), .ref arow, .ref abox, .ref awrd, .int (nI rd), .ref ablk, .ref amov, .int (nI za), .int (nI zb), .ref ahA, .ref ahB, .ref ahC, .ref anum, .ref amsg, .ref astr]))]) hx hb hts (by decide +kernel) tyX8 tyX8_ok nmX8 hown hK hP hD hS 0 rfl rfl 0 (by decide) (hts (.fieldLink RX8 63 "NumeralCipherModel" "thrown" "I") (by decide +kernel)) rfl rfl (by decide +kernel) (Nat.le_of_ble_eq_true rfl) rfl dX8_tweak_2 (fun H locs hP hD hS => ?_)
  refine lv_aload_n hx hb dX8_tweak_5 rfl (lv_at hl 0 rfl) ?_
  refine lv_aload_n hx hb dX8_tweak_6 rfl (lv_at hl 0 rfl) ?_
  refine gv_get (own := RX8) (D := (dC, dI)) (ci := 7) (C := RX8) (T := TX8) (N := 23) (v := .int (nI by_)) hx hb hts (by decide +kernel) hown hK hP 0 rfl rfl 1 (by decide) (hts (.fieldLink RX8 141 "NumeralCipherModel" "bytes" "I") (by decide +kernel)) rfl rfl dX8_tweak_7 ?_
  refine lv_bipush (v := nI 32) hx hb dX8_tweak_10 (by decide) ?_
  refine gv_icmp_le (tgt := 19) hx hb dX8_tweak_12 (by decide) (by omega) (by omega) (fun c_12 => ?_) (fun c_12 => ?_)
  ·
    exact absurd c_12 (by omega)
  ·
    refine lv_iconst (v := nI 1) hx hb dX8_tweak_15 (by decide) ?_
    refine lv_goto (tgt := 20) hx hb dX8_tweak_16 (by decide) ?_
    refine lv_iconst (v := nI 1) hx hb dX8_tweak_20 (by decide) ?_
    have hPc := hP.sub (ws' := [(mo, .inr (7, [.int (nI 0), .int (nI by_), .ref abuf, .int (nI ks), .ref akey, .int (nI ts), .ref atwk, .int (nI rx), .int (nI mn), .ref arow, .ref abox, .ref awrd, .int (nI rd), .ref ablk, .ref amov, .int (nI za), .int (nI zb), .ref ahA, .ref ahB, .ref ahC, .ref anum, .ref amsg, .ref astr]))]) [0] rfl
    have hDc := hD.sub (ws' := [(mo, .inr (7, [.int (nI 0), .int (nI by_), .ref abuf, .int (nI ks), .ref akey, .int (nI ts), .ref atwk, .int (nI rx), .int (nI mn), .ref arow, .ref abox, .ref awrd, .int (nI rd), .ref ablk, .ref amov, .int (nI za), .int (nI zb), .ref ahA, .ref ahB, .ref ahC, .ref anum, .ref amsg, .ref astr]))]) [0] (by decide) rfl
    have hFc := va_free (wc := [(mo, .inr (7, [.int (nI 0), .int (nI by_), .ref abuf, .int (nI ks), .ref akey, .int (nI ts), .ref atwk, .int (nI rx), .int (nI mn), .ref arow, .ref abox, .ref awrd, .int (nI rd), .ref ablk, .ref amov, .int (nI za), .int (nI zb), .ref ahA, .ref ahB, .ref ahC, .ref anum, .ref amsg, .ref astr]))]) hD hS hA [0] rfl
    refine va_calli (va_runV (As := [.int (nI 1), .int (nI 1)]) (rest := []) ⟨hx, hb, hml, hown, hts⟩ (c_X8_refuses_1 l dC dI cI H.size mo abuf akey atwk arow abox awrd ablk amov ahA ahB ahC anum amsg astr 0 by_ ks ts rx mn rd za zb 1 (by omega) (by omega)) (cwV 2 hts gX8_tweak_X8_refuses rfl rfl rfl (by decide +kernel) ⟨Nat.le_of_ble_eq_true rfl, Nat.le_of_ble_eq_true rfl⟩) ⟨gPc_blind, va_recv hK hPc (ci := 7) (q0 := 0) rfl rfl, gPc_pre hPc hK hDc⟩ rfl rfl hl.1 rfl (lv_room (Nat.le_of_ble_eq_true rfl)) dX8_tweak_21 ⟨Nat.zero_le _, Nat.zero_le _⟩) hS (fun q _ h => hFc q h) hFc (fun r9 u8 t8 H1 locs ht hvm hw hB hz1 hk1 hS => ?_)
    try dsimp only at hw hB
    obtain ⟨hP, hD⟩ := gB_join (wr := []) (w2 := [(mo, .inr (7, [.int (nI 1), .int (nI by_), .ref abuf, .int (nI ks), .ref akey, .int (nI ts), .ref atwk, .int (nI rx), .int (nI mn), .ref arow, .ref abox, .ref awrd, .int (nI rd), .ref ablk, .ref amov, .int (nI za), .int (nI zb), .ref ahA, .ref ahB, .ref ahC, .ref anum, .ref amsg, .ref astr]))]) hP hD [0] [] rfl rfl (by decide) (by decide) hk1 hFc ht hB rfl
    clear hk1 hz1 ht hB hvm hPc hDc hFc
    generalize H1 = H at hP hS ⊢
    subst hw
    refine gv_if_eq (tgt := 29) hx hb dX8_tweak_24 (by decide) (by omega) (fun c_24 => ?_) (fun c_24 => ?_)
    ·
      exact absurd c_24 (by decide)
    ·
      refine lv_iconst (v := nI 0) hx hb dX8_tweak_27 (by decide) ?_
      exact W.iret (v := (nI 0)) hx hb hr (fun t ht hW => ⟨⟨_, (), rfl, rfl, gB_end ht hW hP hK hD⟩, hS.F ht⟩) hS.2.2 dX8_tweak_28

set_option maxHeartbeats 4000000 in
set_option maxRecDepth 100000 in
/-- block: ok -/
theorem c_X8_block_ok (l : Launch) (dC : Nat → ClassId) (dI : Nat → Nat → Nat) (cI : ClassId) (sz : Nat) (mo : Nat) (abuf : Nat) (akey : Nat) (atwk : Nat) (arow : Nat) (abox : Nat) (awrd : Nat) (ablk : Nat) (amov : Nat) (ahA : Nat) (ahB : Nat) (ahC : Nat) (anum : Nat) (amsg : Nat) (astr : Nat) (th : Nat) (by_ : Nat) (ks : Nat) (ts : Nat) (rx : Nat) (mn : Nat) (rd : Nat) (za : Nat) (zb : Nat) (b0 : Nat → Nat) (kb : Nat → Nat) (bx : Nat → Nat) (w0 : Nat → Nat) (k0 : Nat → Nat) (v0 : Nat → Nat) (Wk : Nat → Nat) (Bk : Nat → Nat) (hks : ks = 16 ∨ ks = 24 ∨ ks = 32) (hkb : ∀ q, q < 32 → kb q < 256) (hbx : ∀ q, q < 256 → bx q = sB q) (hWk : ∀ q, q < 16 * (ks / 4 + 7) → ksS (keyK 0 kb (ks / 4)) (ks / 4) (3 * (ks / 4) + 28) q = Wk q) (hW : ∀ j, j < 16 * (ks / 4 + 6 + 1) → Wk j < 256) (hby : by_ = 16) (hB : ∀ j, j < 16 → Bk j < 256) (hbb : ∀ q, q < 16 → b0 q = Bk q) : Met l yX8_block wsX8_block ({ frames := 2, cells := 0, slots := 0, locals := 52 }) (gPc dC dI cI [.ref mo] [(mo, .inr (7, [.int (nI th), .int (nI by_), .ref abuf, .int (nI ks), .ref akey, .int (nI ts), .ref atwk, .int (nI rx), .int (nI mn), .ref arow, .ref abox, .ref awrd, .int (nI rd), .ref ablk, .ref amov, .int (nI za), .int (nI zb), .ref ahA, .ref ahB, .ref ahC, .ref anum, .ref amsg, .ref astr])), (abuf, .inl (cI, 64, .inl (gA b0))), (akey, .inl (cI, 32, .inl (gA kb))), (abox, .inl (cI, 256, .inl (gA bx))), (awrd, .inl (cI, 240, .inl (gA w0))), (ablk, .inl (cI, 16, .inl (gA k0))), (amov, .inl (cI, 16, .inl (gA v0)))] sz) (va_Qv (fun u : (Nat → Nat) × (Nat → Nat) × (Nat → Nat) × (Nat → Nat) => (∀ q, q < 64 → u.1 q = if q < 16 then enc Wk (ks / 4 + 6) Bk q else b0 q)) (fun u t => gB dC dI cI (va_A [(mo, .inr (7, [.int (nI th), .int (nI by_), .ref abuf, .int (nI ks), .ref akey, .int (nI ts), .ref atwk, .int (nI rx), .int (nI mn), .ref arow, .ref abox, .ref awrd, .int (nI rd), .ref ablk, .ref amov, .int (nI za), .int (nI zb), .ref ahA, .ref ahB, .ref ahC, .ref anum, .ref amsg, .ref astr])), (abuf, .inl (cI, 64, .inl (gA b0))), (akey, .inl (cI, 32, .inl (gA kb))), (abox, .inl (cI, 256, .inl (gA bx))), (awrd, .inl (cI, 240, .inl (gA w0))), (ablk, .inl (cI, 16, .inl (gA k0))), (amov, .inl (cI, 16, .inl (gA v0)))] sz) [(mo, .inr (7, [.int (nI 0), .int (nI by_), .ref abuf, .int (nI ks), .ref akey, .int (nI ts), .ref atwk, .int (nI rx), .int (nI mn), .ref arow, .ref abox, .ref awrd, .int (nI (ks / 4 + 6)), .ref ablk, .ref amov, .int (nI za), .int (nI zb), .ref ahA, .ref ahB, .ref ahC, .ref anum, .ref amsg, .ref astr])), (abuf, .inl (cI, 64, .inl (gA u.1))), (akey, .inl (cI, 32, .inl (gA kb))), (abox, .inl (cI, 256, .inl (gA bx))), (awrd, .inl (cI, 240, .inl (gA u.2.1))), (ablk, .inl (cI, 16, .inl (gA u.2.2.1))), (amov, .inl (cI, 16, .inl (gA u.2.2.2)))] t) (va_A [(mo, .inr (7, [.int (nI th), .int (nI by_), .ref abuf, .int (nI ks), .ref akey, .int (nI ts), .ref atwk, .int (nI rx), .int (nI mn), .ref arow, .ref abox, .ref awrd, .int (nI rd), .ref ablk, .ref amov, .int (nI za), .int (nI zb), .ref ahA, .ref ahB, .ref ahC, .ref anum, .ref amsg, .ref astr])), (abuf, .inl (cI, 64, .inl (gA b0))), (akey, .inl (cI, 32, .inl (gA kb))), (abox, .inl (cI, 256, .inl (gA bx))), (awrd, .inl (cI, 240, .inl (gA w0))), (ablk, .inl (cI, 16, .inl (gA k0))), (amov, .inl (cI, 16, .inl (gA v0)))] sz)) 0 0 (va_A [(mo, .inr (7, [.int (nI th), .int (nI by_), .ref abuf, .int (nI ks), .ref akey, .int (nI ts), .ref atwk, .int (nI rx), .int (nI mn), .ref arow, .ref abox, .ref awrd, .int (nI rd), .ref ablk, .ref amov, .int (nI za), .int (nI zb), .ref ahA, .ref ahB, .ref ahC, .ref anum, .ref amsg, .ref astr])), (abuf, .inl (cI, 64, .inl (gA b0))), (akey, .inl (cI, 32, .inl (gA kb))), (abox, .inl (cI, 256, .inl (gA bx))), (awrd, .inl (cI, 240, .inl (gA w0))), (ablk, .inl (cI, 16, .inl (gA k0))), (amov, .inl (cI, 16, .inl (gA v0)))] sz) := by
  refine Met.ofW (cc := cX8_block) (maxL := 2) (ret := none) (by decide) rfl ?_
  intro p e s m args below meth c s₁ B9 hml hv
  obtain ⟨rfl, hsz, ⟨hP, hK, hD0⟩⟩ := hv
  have hx := B9.exec
  have hb := B9.bytes
  have hr := B9.returns
  have hts := atoms_spec (ws := wsX8_block) B9.pre
  have hown : s.vm.findClass RX8 = some m.cls := findClass_of_methodNamed B9.named
  have hlocks := B9.notSynchronized
  subst hsz
  have hD := hD0.self (sz := s.heap.size)
  generalize hAe : va_A [(mo, .inr (7, [.int (nI th), .int (nI by_), .ref abuf, .int (nI ks), .ref akey, .int (nI ts), .ref atwk, .int (nI rx), .int (nI mn), .ref arow, .ref abox, .ref awrd, .int (nI rd), .ref ablk, .ref amov, .int (nI za), .int (nI zb), .ref ahA, .ref ahB, .ref ahC, .ref anum, .ref amsg, .ref astr])), (abuf, .inl (cI, 64, .inl (gA b0))), (akey, .inl (cI, 32, .inl (gA kb))), (abox, .inl (cI, 256, .inl (gA bx))), (awrd, .inl (cI, 240, .inl (gA w0))), (ablk, .inl (cI, 16, .inl (gA k0))), (amov, .inl (cI, 16, .inl (gA v0)))] s.heap.size = A at hD ⊢
  have hA : ∀ q : Nat, s.heap.size ≤ q → A q := fun q h => by rw [← hAe]; exact Or.inr h
  have hS : va_S A s.heap s.heap [] := va_S.rf
  have hl := lv_entry ([.ref mo]) (n := 2) (Nat.le_of_ble_eq_true rfl)
  rw [lg_entry_eq]
  generalize (lg_sl ([.ref mo]) ++ List.replicate (2 - (lg_sl ([.ref mo])).length) Slot.unset).toArray = ls at hl ⊢
  have hl : lv_has ls 2 [(0, .ref mo)] := hl
  refine lv_aload_n hx hb dX8_block_0 rfl (lv_at hl 0 rfl) ?_
  refine lv_iconst (v := nI 0) hx hb dX8_block_1 (by decide) ?_
  refine gv_put (own := RX8) (D := (dC, dI)) (ci := 7) (C := RX8) (T := TX8) (N := 23) (ws' := [(mo, .inr (7, [.int (nI 0), .int (nI by_), .ref abuf, .int (nI ks), .ref akey, .int (nI ts), .ref atwk, .int (nI rx), .int (nI mn), .ref arow, .ref abox, .ref awrd, .int (nI rd), .ref ablk, .ref amov, .int (nI za), .int (nI zb), .ref ahA, .ref ahB, .ref ahC, .ref anum, .ref amsg, .ref astr])), (abuf, .inl (cI, 64, .inl (gA b0))), (akey, .inl (cI, 32, .inl (gA kb))), (abox, .inl (cI, 256, .inl (gA bx))), (awrd, .inl (cI, 240, .inl (gA w0))), (ablk, .inl (cI, 16, .inl (gA k0))), (amov, .inl (cI, 16, .inl (gA v0)))]) hx hb hts (by decide +kernel) tyX8 tyX8_ok nmX8 hown hK hP hD hS 0 rfl rfl 0 (by decide) (hts (.fieldLink RX8 63 "NumeralCipherModel" "thrown" "I") (by decide +kernel)) rfl rfl (by decide +kernel) (Nat.le_of_ble_eq_true rfl) rfl dX8_block_2 (fun H locs hP hD hS => ?_)
  refine lv_aload_n hx hb dX8_block_5 rfl (lv_at hl 0 rfl) ?_
  refine lv_aload_n hx hb dX8_block_6 rfl (lv_at hl 0 rfl) ?_
  refine gv_get (own := RX8) (D := (dC, dI)) (ci := 7) (C := RX8) (T := TX8) (N := 23) (v := .int (nI by_)) hx hb hts (by decide +kernel) hown hK hP 0 rfl rfl 1 (by decide) (hts (.fieldLink RX8 141 "NumeralCipherModel" "bytes" "I") (by decide +kernel)) rfl rfl dX8_block_7 ?_
  refine lv_bipush (v := nI 16) hx hb dX8_block_10 (by decide) ?_
  refine gv_icmp_eq (tgt := 19) hx hb dX8_block_12 (by decide) (by omega) (by omega) (fun c_12 => ?_) (fun c_12 => ?_)
  ·
    refine lv_iconst (v := nI 0) hx hb dX8_block_19 (by decide) ?_
    refine lv_iconst (v := nI 1) hx hb dX8_block_20 (by decide) ?_
    have hPc := hP.sub (ws' := [(mo, .inr (7, [.int (nI 0), .int (nI by_), .ref abuf, .int (nI ks), .ref akey, .int (nI ts), .ref atwk, .int (nI rx), .int (nI mn), .ref arow, .ref abox, .ref awrd, .int (nI rd), .ref ablk, .ref amov, .int (nI za), .int (nI zb), .ref ahA, .ref ahB, .ref ahC, .ref anum, .ref amsg, .ref astr]))]) [0] rfl
    have hDc := hD.sub (ws' := [(mo, .inr (7, [.int (nI 0), .int (nI by_), .ref abuf, .int (nI ks), .ref akey, .int (nI ts), .ref atwk, .int (nI rx), .int (nI mn), .ref arow, .ref abox, .ref awrd, .int (nI rd), .ref ablk, .ref amov, .int (nI za), .int (nI zb), .ref ahA, .ref ahB, .ref ahC, .ref anum, .ref amsg, .ref astr]))]) [0] (by decide) rfl
    refine gv_callR (W.runV (As := [.int (nI 0), .int (nI 1)]) (rest := []) ⟨hx, hb, hml, hown, hts⟩ (c_X8_refuses_0 l dC dI cI H.size mo abuf akey atwk arow abox awrd ablk amov ahA ahB ahC anum amsg astr 0 by_ ks ts rx mn rd za zb 1 ) (cwV 2 hts gX8_block_X8_refuses rfl rfl rfl (by decide +kernel) ⟨Nat.le_of_ble_eq_true rfl, Nat.le_of_ble_eq_true rfl⟩) ⟨gPc_blind, va_recv hK hPc (ci := 7) (q0 := 0) rfl rfl, gPc_pre hPc hK hDc⟩ rfl rfl hl.1 rfl (lv_room (Nat.le_of_ble_eq_true rfl)) dX8_block_21 ⟨Nat.zero_le _, Nat.zero_le _⟩) ?_
    clear hPc hDc
    refine gv_if_eq (tgt := 28) hx hb dX8_block_24 (by decide) (by omega) (fun c_24 => ?_) (fun c_24 => ?_)
    ·
      refine lv_aload_n hx hb dX8_block_28 rfl (lv_at hl 0 rfl) ?_
      refine lv_iconst (v := nI 0) hx hb dX8_block_29 (by decide) ?_
      have hPc := hP.sub (ws' := [(mo, .inr (7, [.int (nI 0), .int (nI by_), .ref abuf, .int (nI ks), .ref akey, .int (nI ts), .ref atwk, .int (nI rx), .int (nI mn), .ref arow, .ref abox, .ref awrd, .int (nI rd), .ref ablk, .ref amov, .int (nI za), .int (nI zb), .ref ahA, .ref ahB, .ref ahC, .ref anum, .ref amsg, .ref astr])), (akey, .inl (cI, 32, .inl (gA kb))), (abox, .inl (cI, 256, .inl (gA bx))), (awrd, .inl (cI, 240, .inl (gA w0)))]) [0, 2, 3, 4] rfl
      have hDc := hD.sub (ws' := [(mo, .inr (7, [.int (nI 0), .int (nI by_), .ref abuf, .int (nI ks), .ref akey, .int (nI ts), .ref atwk, .int (nI rx), .int (nI mn), .ref arow, .ref abox, .ref awrd, .int (nI rd), .ref ablk, .ref amov, .int (nI za), .int (nI zb), .ref ahA, .ref ahB, .ref ahC, .ref anum, .ref amsg, .ref astr])), (akey, .inl (cI, 32, .inl (gA kb))), (abox, .inl (cI, 256, .inl (gA bx))), (awrd, .inl (cI, 240, .inl (gA w0)))]) [0, 2, 3, 4] (by decide) rfl
      have hFc := va_free (wc := [(mo, .inr (7, [.int (nI 0), .int (nI by_), .ref abuf, .int (nI ks), .ref akey, .int (nI ts), .ref atwk, .int (nI rx), .int (nI mn), .ref arow, .ref abox, .ref awrd, .int (nI rd), .ref ablk, .ref amov, .int (nI za), .int (nI zb), .ref ahA, .ref ahB, .ref ahC, .ref anum, .ref amsg, .ref astr])), (akey, .inl (cI, 32, .inl (gA kb))), (abox, .inl (cI, 256, .inl (gA bx))), (awrd, .inl (cI, 240, .inl (gA w0)))]) hD hS hA [0, 2, 3, 4] rfl
      refine va_callv (va_runV (As := [.int (nI 0)]) (rest := []) ⟨hx, hb, hml, hown, hts⟩ (c_X8_makeWords l dC dI cI H.size mo abuf akey atwk arow abox awrd ablk amov ahA ahB ahC anum amsg astr 0 by_ ks ts rx mn rd za zb kb bx w0 0 hks hkb hbx (by omega)) (cwV 1 hts gX8_block_X8_makeWords rfl rfl rfl (by decide +kernel) ⟨Nat.le_of_ble_eq_true rfl, Nat.le_of_ble_eq_true rfl⟩) ⟨gPc_blind, va_recv hK hPc (ci := 7) (q0 := 0) rfl rfl, gPc_pre hPc hK hDc⟩ rfl rfl hl.1 rfl (lv_room (Nat.le_of_ble_eq_true rfl)) dX8_block_30 ⟨Nat.zero_le _, Nat.zero_le _⟩) hS (fun q _ h => hFc q h) hFc (fun u8 t8 H1 locs ht hvm hw hB hz1 hk1 hS => ?_)
      obtain ⟨w9_1, rfl⟩ : ∃ z, z = u8 := ⟨_, rfl⟩
      try dsimp only at hw hB
      obtain ⟨hP, hD⟩ := gB_join (wr := [(abuf, .inl (cI, 64, .inl (gA b0))), (ablk, .inl (cI, 16, .inl (gA k0))), (amov, .inl (cI, 16, .inl (gA v0)))]) (w2 := [(abuf, .inl (cI, 64, .inl (gA b0))), (ablk, .inl (cI, 16, .inl (gA k0))), (amov, .inl (cI, 16, .inl (gA v0))), (mo, .inr (7, [.int (nI 0), .int (nI by_), .ref abuf, .int (nI ks), .ref akey, .int (nI ts), .ref atwk, .int (nI rx), .int (nI mn), .ref arow, .ref abox, .ref awrd, .int (nI (ks / 4 + 6)), .ref ablk, .ref amov, .int (nI za), .int (nI zb), .ref ahA, .ref ahB, .ref ahC, .ref anum, .ref amsg, .ref astr])), (akey, .inl (cI, 32, .inl (gA kb))), (abox, .inl (cI, 256, .inl (gA bx))), (awrd, .inl (cI, 240, .inl (gA w9_1)))]) hP hD [0, 2, 3, 4] [1, 5, 6] rfl rfl (by decide) (by decide) hk1 hFc ht hB rfl
      clear hk1 hz1 ht hB hvm hPc hDc hFc
      generalize H1 = H at hP hS ⊢
      have hw := hw
      have hww : ∀ q, q < 16 * (ks / 4 + 6 + 1) → _ = Wk q := fun q hq => (hw q (by omega)).trans (hWk q (by omega))
      refine lv_iconst (v := nI 0) hx hb dX8_block_33 (by decide) ?_
      refine lv_istore_n (lv' := [(1, .int (nI 0)), (0, .ref mo)]) hx hb dX8_block_34 rfl hl (by decide) rfl (fun ls hl => ?_)
      refine gw_lab (G := fun R args Q => ∀ (n9_35 : Nat) (i : Nat) (g : Nat → Nat), n9_35 = 16 - i → (i ≤ 16) → (∀ q, q < 16 → g q = if q < i then b0 q else k0 q) → ∀ (H : Heap) (locs : List Loc), va_P (dC, dI) vwCl [(abuf, .inl (cI, 64, .inl (gA b0))), (ablk, .inl (cI, 16, .inl (gA g))), (amov, .inl (cI, 16, .inl (gA v0))), (mo, .inr (7, [.int (nI 0), .int (nI by_), .ref abuf, .int (nI ks), .ref akey, .int (nI ts), .ref atwk, .int (nI rx), .int (nI mn), .ref arow, .ref abox, .ref awrd, .int (nI (ks / 4 + 6)), .ref ablk, .ref amov, .int (nI za), .int (nI zb), .ref ahA, .ref ahB, .ref ahC, .ref anum, .ref amsg, .ref astr])), (akey, .inl (cI, 32, .inl (gA kb))), (abox, .inl (cI, 256, .inl (gA bx))), (awrd, .inl (cI, 240, .inl (gA w9_1)))] H → va_D A [(abuf, .inl (cI, 64, .inl (gA b0))), (ablk, .inl (cI, 16, .inl (gA g))), (amov, .inl (cI, 16, .inl (gA v0))), (mo, .inr (7, [.int (nI 0), .int (nI by_), .ref abuf, .int (nI ks), .ref akey, .int (nI ts), .ref atwk, .int (nI rx), .int (nI mn), .ref arow, .ref abox, .ref awrd, .int (nI (ks / 4 + 6)), .ref ablk, .ref amov, .int (nI za), .int (nI zb), .ref ahA, .ref ahB, .ref ahC, .ref anum, .ref amsg, .ref astr])), (akey, .inl (cI, 32, .inl (gA kb))), (abox, .inl (cI, 256, .inl (gA bx))), (awrd, .inl (cI, 240, .inl (gA w9_1)))] → va_S A s.heap H locs → ∀ (ls : Array Slot), lv_has ls 2 [(1, .int (nI i)), (0, .ref mo)] → W p l e R s m args below meth c H locs 0 0 Q (F0 m 35 ls [])) ?_ (fun L35 => ?_)
      ·
        intro n9_35
        induction n9_35 using Nat.strongRecOn with
        | ind n9_35 ih9_35 =>
          intro i g hmu9_35 hi hg H locs hP hD hS ls hl
          refine lv_iload_n hx hb dX8_block_35 rfl (lv_at hl 0 rfl) ?_
          refine lv_bipush (v := nI 16) hx hb dX8_block_36 (by decide) ?_
          refine gv_icmp_ge (tgt := 59) hx hb dX8_block_38 (by decide) (by omega) (by omega) (fun c_38 => ?_) (fun c_38 => ?_)
          ·
            have e9 : i = 16 := by omega
            rw [e9] at hg
            have hg := fl_e hg
            refine lv_aload_n hx hb dX8_block_59 rfl (lv_at hl 1 rfl) ?_
            have hPc := hP.sub (ws' := [(mo, .inr (7, [.int (nI 0), .int (nI by_), .ref abuf, .int (nI ks), .ref akey, .int (nI ts), .ref atwk, .int (nI rx), .int (nI mn), .ref arow, .ref abox, .ref awrd, .int (nI (ks / 4 + 6)), .ref ablk, .ref amov, .int (nI za), .int (nI zb), .ref ahA, .ref ahB, .ref ahC, .ref anum, .ref amsg, .ref astr])), (abox, .inl (cI, 256, .inl (gA bx))), (awrd, .inl (cI, 240, .inl (gA w9_1))), (ablk, .inl (cI, 16, .inl (gA g))), (amov, .inl (cI, 16, .inl (gA v0)))]) [3, 5, 6, 1, 2] rfl
            have hDc := hD.sub (ws' := [(mo, .inr (7, [.int (nI 0), .int (nI by_), .ref abuf, .int (nI ks), .ref akey, .int (nI ts), .ref atwk, .int (nI rx), .int (nI mn), .ref arow, .ref abox, .ref awrd, .int (nI (ks / 4 + 6)), .ref ablk, .ref amov, .int (nI za), .int (nI zb), .ref ahA, .ref ahB, .ref ahC, .ref anum, .ref amsg, .ref astr])), (abox, .inl (cI, 256, .inl (gA bx))), (awrd, .inl (cI, 240, .inl (gA w9_1))), (ablk, .inl (cI, 16, .inl (gA g))), (amov, .inl (cI, 16, .inl (gA v0)))]) [3, 5, 6, 1, 2] (by decide) rfl
            have hFc := va_free (wc := [(mo, .inr (7, [.int (nI 0), .int (nI by_), .ref abuf, .int (nI ks), .ref akey, .int (nI ts), .ref atwk, .int (nI rx), .int (nI mn), .ref arow, .ref abox, .ref awrd, .int (nI (ks / 4 + 6)), .ref ablk, .ref amov, .int (nI za), .int (nI zb), .ref ahA, .ref ahB, .ref ahC, .ref anum, .ref amsg, .ref astr])), (abox, .inl (cI, 256, .inl (gA bx))), (awrd, .inl (cI, 240, .inl (gA w9_1))), (ablk, .inl (cI, 16, .inl (gA g))), (amov, .inl (cI, 16, .inl (gA v0)))]) hD hS hA [3, 5, 6, 1, 2] rfl
            refine va_callv (va_runV (As := []) (rest := []) ⟨hx, hb, hml, hown, hts⟩ (c_X8_encipher l dC dI cI H.size mo abuf akey atwk arow abox awrd ablk amov ahA ahB ahC anum amsg astr 0 by_ ks ts rx mn (ks / 4 + 6) za zb bx w9_1 v0 g Wk Bk (by omega) (by omega) hbx hww hW (fun q hq => (hg q hq).trans (hbb q hq)) hB) (cwV 0 hts gX8_block_X8_encipher rfl rfl rfl (by decide +kernel) ⟨Nat.le_of_ble_eq_true rfl, Nat.le_of_ble_eq_true rfl⟩) ⟨gPc_blind, va_recv hK hPc (ci := 7) (q0 := 0) rfl rfl, gPc_pre hPc hK hDc⟩ rfl rfl hl.1 rfl (lv_room (Nat.le_of_ble_eq_true rfl)) dX8_block_60 ⟨Nat.zero_le _, Nat.zero_le _⟩) hS (fun q _ h => hFc q h) hFc (fun u8 t8 H1 locs ht hvm hw hB hz1 hk1 hS => ?_)
            obtain ⟨v9_2, b9_2⟩ := u8
            try dsimp only at hw hB
            obtain ⟨hP, hD⟩ := gB_join (wr := [(abuf, .inl (cI, 64, .inl (gA b0))), (akey, .inl (cI, 32, .inl (gA kb)))]) (w2 := [(abuf, .inl (cI, 64, .inl (gA b0))), (akey, .inl (cI, 32, .inl (gA kb))), (mo, .inr (7, [.int (nI 0), .int (nI by_), .ref abuf, .int (nI ks), .ref akey, .int (nI ts), .ref atwk, .int (nI rx), .int (nI mn), .ref arow, .ref abox, .ref awrd, .int (nI (ks / 4 + 6)), .ref ablk, .ref amov, .int (nI za), .int (nI zb), .ref ahA, .ref ahB, .ref ahC, .ref anum, .ref amsg, .ref astr])), (abox, .inl (cI, 256, .inl (gA bx))), (awrd, .inl (cI, 240, .inl (gA w9_1))), (ablk, .inl (cI, 16, .inl (gA b9_2))), (amov, .inl (cI, 16, .inl (gA v9_2)))]) hP hD [3, 5, 6, 1, 2] [0, 4] rfl rfl (by decide) (by decide) hk1 hFc ht hB rfl
            clear hk1 hz1 ht hB hvm hPc hDc hFc
            generalize H1 = H at hP hS ⊢
            have hbe := hw
            refine lv_iconst (v := nI 0) hx hb dX8_block_63 (by decide) ?_
            refine lv_istore_n (lv' := [(1, .int (nI 0)), (0, .ref mo)]) hx hb dX8_block_64 rfl hl (by decide) rfl (fun ls hl => ?_)
            refine gw_lab (G := fun R args Q => ∀ (n9_65 : Nat) (i : Nat) (g2 : Nat → Nat), n9_65 = 16 - i → (i ≤ 16) → (∀ q, q < 64 → g2 q = if q < i then enc Wk (ks / 4 + 6) Bk q else b0 q) → ∀ (H : Heap) (locs : List Loc), va_P (dC, dI) vwCl [(abuf, .inl (cI, 64, .inl (gA g2))), (akey, .inl (cI, 32, .inl (gA kb))), (mo, .inr (7, [.int (nI 0), .int (nI by_), .ref abuf, .int (nI ks), .ref akey, .int (nI ts), .ref atwk, .int (nI rx), .int (nI mn), .ref arow, .ref abox, .ref awrd, .int (nI (ks / 4 + 6)), .ref ablk, .ref amov, .int (nI za), .int (nI zb), .ref ahA, .ref ahB, .ref ahC, .ref anum, .ref amsg, .ref astr])), (abox, .inl (cI, 256, .inl (gA bx))), (awrd, .inl (cI, 240, .inl (gA w9_1))), (ablk, .inl (cI, 16, .inl (gA b9_2))), (amov, .inl (cI, 16, .inl (gA v9_2)))] H → va_D A [(abuf, .inl (cI, 64, .inl (gA g2))), (akey, .inl (cI, 32, .inl (gA kb))), (mo, .inr (7, [.int (nI 0), .int (nI by_), .ref abuf, .int (nI ks), .ref akey, .int (nI ts), .ref atwk, .int (nI rx), .int (nI mn), .ref arow, .ref abox, .ref awrd, .int (nI (ks / 4 + 6)), .ref ablk, .ref amov, .int (nI za), .int (nI zb), .ref ahA, .ref ahB, .ref ahC, .ref anum, .ref amsg, .ref astr])), (abox, .inl (cI, 256, .inl (gA bx))), (awrd, .inl (cI, 240, .inl (gA w9_1))), (ablk, .inl (cI, 16, .inl (gA b9_2))), (amov, .inl (cI, 16, .inl (gA v9_2)))] → va_S A s.heap H locs → ∀ (ls : Array Slot), lv_has ls 2 [(1, .int (nI i)), (0, .ref mo)] → W p l e R s m args below meth c H locs 0 0 Q (F0 m 65 ls [])) ?_ (fun L65 => ?_)
            ·
              intro n9_65
              induction n9_65 using Nat.strongRecOn with
              | ind n9_65 ih9_65 =>
                intro i g2 hmu9_65 hi hg2 H locs hP hD hS ls hl
                refine lv_iload_n hx hb dX8_block_65 rfl (lv_at hl 0 rfl) ?_
                refine lv_bipush (v := nI 16) hx hb dX8_block_66 (by decide) ?_
                refine gv_icmp_ge (tgt := 89) hx hb dX8_block_68 (by decide) (by omega) (by omega) (fun c_68 => ?_) (fun c_68 => ?_)
                ·
                  have e9 : i = 16 := by omega
                  rw [e9] at hg2
                  exact W.vret hx hb hr (fun t ht hW => ⟨⟨(g2, w9_1, b9_2, v9_2), rfl, hg2, gB_end ht hW (hP.sub [2, 0, 1, 3, 4, 5, 6] rfl) hK (hD.sub [2, 0, 1, 3, 4, 5, 6] (by decide) rfl)⟩, hS.F ht⟩) hS.2.2 dX8_block_89
                ·
                  refine lv_aload_n hx hb dX8_block_71 rfl (lv_at hl 1 rfl) ?_
                  refine gv_get (own := RX8) (D := (dC, dI)) (ci := 7) (C := RX8) (T := TX8) (N := 23) (v := .ref abuf) hx hb hts (by decide +kernel) hown hK hP 2 rfl rfl 2 (by decide) (hts (.fieldLink RX8 7 "NumeralCipherModel" "buffer" "[I") (by decide +kernel)) rfl rfl dX8_block_72 ?_
                  refine lv_iload_n hx hb dX8_block_75 rfl (lv_at hl 0 rfl) ?_
                  refine lv_aload_n hx hb dX8_block_76 rfl (lv_at hl 1 rfl) ?_
                  refine gv_get (own := RX8) (D := (dC, dI)) (ci := 7) (C := RX8) (T := TX8) (N := 23) (v := .ref ablk) hx hb hts (by decide +kernel) hown hK hP 2 rfl rfl 13 (by decide) (hts (.fieldLink RX8 35 "NumeralCipherModel" "block" "[I") (by decide +kernel)) rfl rfl dX8_block_77 ?_
                  refine lv_iload_n hx hb dX8_block_80 rfl (lv_at hl 0 rfl) ?_
                  refine gv_iald hx hb hK hP 5 0 rfl rfl (by omega) (by omega) dX8_block_81 ?_
                  refine gv_top (y := nI (enc Wk (ks / 4 + 6) Bk i)) (congrArg nI (hbe i c_68)) ?_
                  refine gv_iast (ws' := [(abuf, .inl (cI, 64, .inl (gA (gU g2 i (enc Wk (ks / 4 + 6) Bk i))))), (akey, .inl (cI, 32, .inl (gA kb))), (mo, .inr (7, [.int (nI 0), .int (nI by_), .ref abuf, .int (nI ks), .ref akey, .int (nI ts), .ref atwk, .int (nI rx), .int (nI mn), .ref arow, .ref abox, .ref awrd, .int (nI (ks / 4 + 6)), .ref ablk, .ref amov, .int (nI za), .int (nI zb), .ref ahA, .ref ahB, .ref ahC, .ref anum, .ref amsg, .ref astr])), (abox, .inl (cI, 256, .inl (gA bx))), (awrd, .inl (cI, 240, .inl (gA w9_1))), (ablk, .inl (cI, 16, .inl (gA b9_2))), (amov, .inl (cI, 16, .inl (gA v9_2)))]) hx hb hK hP hD hS 0 0 rfl rfl rfl (by omega) (by omega) dX8_block_82 (fun H locs hP hD hS => ?_)
                  refine lv_iinc (v := nI (i + 1)) (lv' := [(1, .int (nI (i + 1))), (0, .ref mo)]) hx hb dX8_block_83 hl (k := 0) rfl (gz_inc1 _) (by decide) rfl (fun ls hl => ?_)
                  refine lv_goto (tgt := 65) hx hb dX8_block_86 (by decide) ?_
                  exact ih9_65 _ (by omega) (i + 1) (gU g2 i (enc Wk (ks / 4 + 6) Bk i)) rfl (by omega) (fl_s hg2 rfl) _ _ hP hD hS _ hl
            exact L65 _ 0 b0 rfl (by omega) (fl_0 (fun _ _ => rfl)) _ _ hP hD hS _ hl
          ·
            refine lv_aload_n hx hb dX8_block_41 rfl (lv_at hl 1 rfl) ?_
            refine gv_get (own := RX8) (D := (dC, dI)) (ci := 7) (C := RX8) (T := TX8) (N := 23) (v := .ref ablk) hx hb hts (by decide +kernel) hown hK hP 3 rfl rfl 13 (by decide) (hts (.fieldLink RX8 35 "NumeralCipherModel" "block" "[I") (by decide +kernel)) rfl rfl dX8_block_42 ?_
            refine lv_iload_n hx hb dX8_block_45 rfl (lv_at hl 0 rfl) ?_
            refine lv_aload_n hx hb dX8_block_46 rfl (lv_at hl 1 rfl) ?_
            refine gv_get (own := RX8) (D := (dC, dI)) (ci := 7) (C := RX8) (T := TX8) (N := 23) (v := .ref abuf) hx hb hts (by decide +kernel) hown hK hP 3 rfl rfl 2 (by decide) (hts (.fieldLink RX8 7 "NumeralCipherModel" "buffer" "[I") (by decide +kernel)) rfl rfl dX8_block_47 ?_
            refine lv_iload_n hx hb dX8_block_50 rfl (lv_at hl 0 rfl) ?_
            refine gv_iald hx hb hK hP 0 0 rfl rfl (by omega) (by omega) dX8_block_51 ?_
            refine gv_iast (ws' := [(abuf, .inl (cI, 64, .inl (gA b0))), (ablk, .inl (cI, 16, .inl (gA (gU g i (b0 i))))), (amov, .inl (cI, 16, .inl (gA v0))), (mo, .inr (7, [.int (nI 0), .int (nI by_), .ref abuf, .int (nI ks), .ref akey, .int (nI ts), .ref atwk, .int (nI rx), .int (nI mn), .ref arow, .ref abox, .ref awrd, .int (nI (ks / 4 + 6)), .ref ablk, .ref amov, .int (nI za), .int (nI zb), .ref ahA, .ref ahB, .ref ahC, .ref anum, .ref amsg, .ref astr])), (akey, .inl (cI, 32, .inl (gA kb))), (abox, .inl (cI, 256, .inl (gA bx))), (awrd, .inl (cI, 240, .inl (gA w9_1)))]) hx hb hK hP hD hS 1 0 rfl rfl rfl (by omega) (by omega) dX8_block_52 (fun H locs hP hD hS => ?_)
            refine lv_iinc (v := nI (i + 1)) (lv' := [(1, .int (nI (i + 1))), (0, .ref mo)]) hx hb dX8_block_53 hl (k := 0) rfl (gz_inc1 _) (by decide) rfl (fun ls hl => ?_)
            refine lv_goto (tgt := 35) hx hb dX8_block_56 (by decide) ?_
            exact ih9_35 _ (by omega) (i + 1) (gU g i (b0 i)) rfl (by omega) (fl_s hg rfl) _ _ hP hD hS _ hl
      exact L35 _ 0 k0 rfl (by omega) (fl_0 (fun _ _ => rfl)) _ _ hP hD hS _ hl
    ·
      exact absurd c_24 (by decide)
  ·
    exact absurd c_12 (by omega)

set_option maxHeartbeats 4000000 in
set_option maxRecDepth 100000 in
/-- block: b1 -/
theorem c_X8_block_b1 (l : Launch) (dC : Nat → ClassId) (dI : Nat → Nat → Nat) (cI : ClassId) (sz : Nat) (mo : Nat) (abuf : Nat) (akey : Nat) (atwk : Nat) (arow : Nat) (abox : Nat) (awrd : Nat) (ablk : Nat) (amov : Nat) (ahA : Nat) (ahB : Nat) (ahC : Nat) (anum : Nat) (amsg : Nat) (astr : Nat) (th : Nat) (by_ : Nat) (ks : Nat) (ts : Nat) (rx : Nat) (mn : Nat) (rd : Nat) (za : Nat) (zb : Nat) (hb : by_ ≤ 64) (hbad : by_ ≠ 16) : Met l yX8_block wsX8_block ({ frames := 1, cells := 0, slots := 0, locals := 22 }) (gPc dC dI cI [.ref mo] [(mo, .inr (7, [.int (nI th), .int (nI by_), .ref abuf, .int (nI ks), .ref akey, .int (nI ts), .ref atwk, .int (nI rx), .int (nI mn), .ref arow, .ref abox, .ref awrd, .int (nI rd), .ref ablk, .ref amov, .int (nI za), .int (nI zb), .ref ahA, .ref ahB, .ref ahC, .ref anum, .ref amsg, .ref astr]))] sz) (va_Qv (fun _u : Unit => True) (fun _u t => gB dC dI cI (va_A [(mo, .inr (7, [.int (nI th), .int (nI by_), .ref abuf, .int (nI ks), .ref akey, .int (nI ts), .ref atwk, .int (nI rx), .int (nI mn), .ref arow, .ref abox, .ref awrd, .int (nI rd), .ref ablk, .ref amov, .int (nI za), .int (nI zb), .ref ahA, .ref ahB, .ref ahC, .ref anum, .ref amsg, .ref astr]))] sz) [(mo, .inr (7, [.int (nI 1), .int (nI by_), .ref abuf, .int (nI ks), .ref akey, .int (nI ts), .ref atwk, .int (nI rx), .int (nI mn), .ref arow, .ref abox, .ref awrd, .int (nI rd), .ref ablk, .ref amov, .int (nI za), .int (nI zb), .ref ahA, .ref ahB, .ref ahC, .ref anum, .ref amsg, .ref astr]))] t) (va_A [(mo, .inr (7, [.int (nI th), .int (nI by_), .ref abuf, .int (nI ks), .ref akey, .int (nI ts), .ref atwk, .int (nI rx), .int (nI mn), .ref arow, .ref abox, .ref awrd, .int (nI rd), .ref ablk, .ref amov, .int (nI za), .int (nI zb), .ref ahA, .ref ahB, .ref ahC, .ref anum, .ref amsg, .ref astr]))] sz)) 0 0 (va_A [(mo, .inr (7, [.int (nI th), .int (nI by_), .ref abuf, .int (nI ks), .ref akey, .int (nI ts), .ref atwk, .int (nI rx), .int (nI mn), .ref arow, .ref abox, .ref awrd, .int (nI rd), .ref ablk, .ref amov, .int (nI za), .int (nI zb), .ref ahA, .ref ahB, .ref ahC, .ref anum, .ref amsg, .ref astr]))] sz) := by
  refine Met.ofW (cc := cX8_block) (maxL := 2) (ret := none) (by decide) rfl ?_
  intro p e s m args below meth c s₁ B9 hml hv
  obtain ⟨rfl, hsz, ⟨hP, hK, hD0⟩⟩ := hv
  have hx := B9.exec
  have hb := B9.bytes
  have hr := B9.returns
  have hts := atoms_spec (ws := wsX8_block) B9.pre
  have hown : s.vm.findClass RX8 = some m.cls := findClass_of_methodNamed B9.named
  have hlocks := B9.notSynchronized
  subst hsz
  have hD := hD0.self (sz := s.heap.size)
  generalize hAe : va_A [(mo, .inr (7, [.int (nI th), .int (nI by_), .ref abuf, .int (nI ks), .ref akey, .int (nI ts), .ref atwk, .int (nI rx), .int (nI mn), .ref arow, .ref abox, .ref awrd, .int (nI rd), .ref ablk, .ref amov, .int (nI za), .int (nI zb), .ref ahA, .ref ahB, .ref ahC, .ref anum, .ref amsg, .ref astr]))] s.heap.size = A at hD ⊢
  have hA : ∀ q : Nat, s.heap.size ≤ q → A q := fun q h => by rw [← hAe]; exact Or.inr h
  have hS : va_S A s.heap s.heap [] := va_S.rf
  have hl := lv_entry ([.ref mo]) (n := 2) (Nat.le_of_ble_eq_true rfl)
  rw [lg_entry_eq]
  generalize (lg_sl ([.ref mo]) ++ List.replicate (2 - (lg_sl ([.ref mo])).length) Slot.unset).toArray = ls at hl ⊢
  have hl : lv_has ls 2 [(0, .ref mo)] := hl
  refine lv_aload_n hx hb dX8_block_0 rfl (lv_at hl 0 rfl) ?_
  refine lv_iconst (v := nI 0) hx hb dX8_block_1 (by decide) ?_
  refine gv_put (own := RX8) (D := (dC, dI)) (ci := 7) (C := RX8) (T := TX8) (N := 23) (ws' := [(mo, .inr (7, [.int (nI 0), .int (nI by_), .ref abuf, .int (nI ks), .ref akey, .int (nI ts), .ref atwk, .int (nI rx), .int (nI mn), .ref arow, .ref abox, .ref awrd, .int (nI rd), .ref ablk, .ref amov, .int (nI za), .int (nI zb), .ref ahA, .ref ahB, .ref ahC, .ref anum, .ref amsg, .ref astr]))]) hx hb hts (by decide +kernel) tyX8 tyX8_ok nmX8 hown hK hP hD hS 0 rfl rfl 0 (by decide) (hts (.fieldLink RX8 63 "NumeralCipherModel" "thrown" "I") (by decide +kernel)) rfl rfl (by decide +kernel) (Nat.le_of_ble_eq_true rfl) rfl dX8_block_2 (fun H locs hP hD hS => ?_)
  refine lv_aload_n hx hb dX8_block_5 rfl (lv_at hl 0 rfl) ?_
  refine lv_aload_n hx hb dX8_block_6 rfl (lv_at hl 0 rfl) ?_
  refine gv_get (own := RX8) (D := (dC, dI)) (ci := 7) (C := RX8) (T := TX8) (N := 23) (v := .int (nI by_)) hx hb hts (by decide +kernel) hown hK hP 0 rfl rfl 1 (by decide) (hts (.fieldLink RX8 141 "NumeralCipherModel" "bytes" "I") (by decide +kernel)) rfl rfl dX8_block_7 ?_
  refine lv_bipush (v := nI 16) hx hb dX8_block_10 (by decide) ?_
  refine gv_icmp_eq (tgt := 19) hx hb dX8_block_12 (by decide) (by omega) (by omega) (fun c_12 => ?_) (fun c_12 => ?_)
  ·
    exact absurd c_12 (by omega)
  ·
    refine lv_iconst (v := nI 1) hx hb dX8_block_15 (by decide) ?_
    refine lv_goto (tgt := 20) hx hb dX8_block_16 (by decide) ?_
    refine lv_iconst (v := nI 1) hx hb dX8_block_20 (by decide) ?_
    have hPc := hP.sub (ws' := [(mo, .inr (7, [.int (nI 0), .int (nI by_), .ref abuf, .int (nI ks), .ref akey, .int (nI ts), .ref atwk, .int (nI rx), .int (nI mn), .ref arow, .ref abox, .ref awrd, .int (nI rd), .ref ablk, .ref amov, .int (nI za), .int (nI zb), .ref ahA, .ref ahB, .ref ahC, .ref anum, .ref amsg, .ref astr]))]) [0] rfl
    have hDc := hD.sub (ws' := [(mo, .inr (7, [.int (nI 0), .int (nI by_), .ref abuf, .int (nI ks), .ref akey, .int (nI ts), .ref atwk, .int (nI rx), .int (nI mn), .ref arow, .ref abox, .ref awrd, .int (nI rd), .ref ablk, .ref amov, .int (nI za), .int (nI zb), .ref ahA, .ref ahB, .ref ahC, .ref anum, .ref amsg, .ref astr]))]) [0] (by decide) rfl
    have hFc := va_free (wc := [(mo, .inr (7, [.int (nI 0), .int (nI by_), .ref abuf, .int (nI ks), .ref akey, .int (nI ts), .ref atwk, .int (nI rx), .int (nI mn), .ref arow, .ref abox, .ref awrd, .int (nI rd), .ref ablk, .ref amov, .int (nI za), .int (nI zb), .ref ahA, .ref ahB, .ref ahC, .ref anum, .ref amsg, .ref astr]))]) hD hS hA [0] rfl
    refine va_calli (va_runV (As := [.int (nI 1), .int (nI 1)]) (rest := []) ⟨hx, hb, hml, hown, hts⟩ (c_X8_refuses_1 l dC dI cI H.size mo abuf akey atwk arow abox awrd ablk amov ahA ahB ahC anum amsg astr 0 by_ ks ts rx mn rd za zb 1 (by omega) (by omega)) (cwV 2 hts gX8_block_X8_refuses rfl rfl rfl (by decide +kernel) ⟨Nat.le_of_ble_eq_true rfl, Nat.le_of_ble_eq_true rfl⟩) ⟨gPc_blind, va_recv hK hPc (ci := 7) (q0 := 0) rfl rfl, gPc_pre hPc hK hDc⟩ rfl rfl hl.1 rfl (lv_room (Nat.le_of_ble_eq_true rfl)) dX8_block_21 ⟨Nat.zero_le _, Nat.zero_le _⟩) hS (fun q _ h => hFc q h) hFc (fun r9 u8 t8 H1 locs ht hvm hw hB hz1 hk1 hS => ?_)
    try dsimp only at hw hB
    obtain ⟨hP, hD⟩ := gB_join (wr := []) (w2 := [(mo, .inr (7, [.int (nI 1), .int (nI by_), .ref abuf, .int (nI ks), .ref akey, .int (nI ts), .ref atwk, .int (nI rx), .int (nI mn), .ref arow, .ref abox, .ref awrd, .int (nI rd), .ref ablk, .ref amov, .int (nI za), .int (nI zb), .ref ahA, .ref ahB, .ref ahC, .ref anum, .ref amsg, .ref astr]))]) hP hD [0] [] rfl rfl (by decide) (by decide) hk1 hFc ht hB rfl
    clear hk1 hz1 ht hB hvm hPc hDc hFc
    generalize H1 = H at hP hS ⊢
    subst hw
    refine gv_if_eq (tgt := 28) hx hb dX8_block_24 (by decide) (by omega) (fun c_24 => ?_) (fun c_24 => ?_)
    ·
      exact absurd c_24 (by decide)
    ·
      exact W.vret hx hb hr (fun t ht hW => ⟨⟨(), rfl, trivial, gB_end ht hW hP hK hD⟩, hS.F ht⟩) hS.2.2 dX8_block_27

set_option maxHeartbeats 4000000 in
set_option maxRecDepth 100000 in
/-- radix: ok -/
theorem c_X8_radix_ok (l : Launch) (dC : Nat → ClassId) (dI : Nat → Nat → Nat) (cI : ClassId) (sz : Nat) (mo : Nat) (abuf : Nat) (akey : Nat) (atwk : Nat) (arow : Nat) (abox : Nat) (awrd : Nat) (ablk : Nat) (amov : Nat) (ahA : Nat) (ahB : Nat) (ahC : Nat) (anum : Nat) (amsg : Nat) (astr : Nat) (th : Nat) (by_ : Nat) (ks : Nat) (ts : Nat) (rx : Nat) (mn : Nat) (rd : Nat) (za : Nat) (zb : Nat) (r : Nat) (hr1 : 2 ≤ r) (hr2 : r ≤ 65536) : Met l yX8_radix wsX8_radix ({ frames := 1, cells := 0, slots := 0, locals := 25 }) (gPc dC dI cI [.ref mo, .int (nI r)] [(mo, .inr (7, [.int (nI th), .int (nI by_), .ref abuf, .int (nI ks), .ref akey, .int (nI ts), .ref atwk, .int (nI rx), .int (nI mn), .ref arow, .ref abox, .ref awrd, .int (nI rd), .ref ablk, .ref amov, .int (nI za), .int (nI zb), .ref ahA, .ref ahB, .ref ahC, .ref anum, .ref amsg, .ref astr]))] sz) (va_Qi (fun (r : Int32) (_u : Unit) => r = (nI mn)) (fun _u t => gB dC dI cI (va_A [(mo, .inr (7, [.int (nI th), .int (nI by_), .ref abuf, .int (nI ks), .ref akey, .int (nI ts), .ref atwk, .int (nI rx), .int (nI mn), .ref arow, .ref abox, .ref awrd, .int (nI rd), .ref ablk, .ref amov, .int (nI za), .int (nI zb), .ref ahA, .ref ahB, .ref ahC, .ref anum, .ref amsg, .ref astr]))] sz) [(mo, .inr (7, [.int (nI 0), .int (nI by_), .ref abuf, .int (nI ks), .ref akey, .int (nI ts), .ref atwk, .int (nI r), .int (nI 0), .ref arow, .ref abox, .ref awrd, .int (nI rd), .ref ablk, .ref amov, .int (nI za), .int (nI zb), .ref ahA, .ref ahB, .ref ahC, .ref anum, .ref amsg, .ref astr]))] t) (va_A [(mo, .inr (7, [.int (nI th), .int (nI by_), .ref abuf, .int (nI ks), .ref akey, .int (nI ts), .ref atwk, .int (nI rx), .int (nI mn), .ref arow, .ref abox, .ref awrd, .int (nI rd), .ref ablk, .ref amov, .int (nI za), .int (nI zb), .ref ahA, .ref ahB, .ref ahC, .ref anum, .ref amsg, .ref astr]))] sz)) 0 0 (va_A [(mo, .inr (7, [.int (nI th), .int (nI by_), .ref abuf, .int (nI ks), .ref akey, .int (nI ts), .ref atwk, .int (nI rx), .int (nI mn), .ref arow, .ref abox, .ref awrd, .int (nI rd), .ref ablk, .ref amov, .int (nI za), .int (nI zb), .ref ahA, .ref ahB, .ref ahC, .ref anum, .ref amsg, .ref astr]))] sz) := by
  refine Met.ofW (cc := cX8_radix) (maxL := 3) (ret := (some .int)) (by decide) rfl ?_
  intro p e s m args below meth c s₁ B9 hml hv
  obtain ⟨rfl, hsz, ⟨hP, hK, hD0⟩⟩ := hv
  have hx := B9.exec
  have hb := B9.bytes
  have hr := B9.returns
  have hts := atoms_spec (ws := wsX8_radix) B9.pre
  have hown : s.vm.findClass RX8 = some m.cls := findClass_of_methodNamed B9.named
  have hlocks := B9.notSynchronized
  subst hsz
  have hD := hD0.self (sz := s.heap.size)
  generalize hAe : va_A [(mo, .inr (7, [.int (nI th), .int (nI by_), .ref abuf, .int (nI ks), .ref akey, .int (nI ts), .ref atwk, .int (nI rx), .int (nI mn), .ref arow, .ref abox, .ref awrd, .int (nI rd), .ref ablk, .ref amov, .int (nI za), .int (nI zb), .ref ahA, .ref ahB, .ref ahC, .ref anum, .ref amsg, .ref astr]))] s.heap.size = A at hD ⊢
  have hA : ∀ q : Nat, s.heap.size ≤ q → A q := fun q h => by rw [← hAe]; exact Or.inr h
  have hS : va_S A s.heap s.heap [] := va_S.rf
  have hl := lv_entry ([.ref mo, .int (nI r)]) (n := 3) (Nat.le_of_ble_eq_true rfl)
  rw [lg_entry_eq]
  generalize (lg_sl ([.ref mo, .int (nI r)]) ++ List.replicate (3 - (lg_sl ([.ref mo, .int (nI r)])).length) Slot.unset).toArray = ls at hl ⊢
  have hl : lv_has ls 3 [(0, .ref mo), (1, .int (nI r))] := hl
  refine lv_aload_n hx hb dX8_radix_0 rfl (lv_at hl 0 rfl) ?_
  refine lv_iconst (v := nI 0) hx hb dX8_radix_1 (by decide) ?_
  refine gv_put (own := RX8) (D := (dC, dI)) (ci := 7) (C := RX8) (T := TX8) (N := 23) (ws' := [(mo, .inr (7, [.int (nI 0), .int (nI by_), .ref abuf, .int (nI ks), .ref akey, .int (nI ts), .ref atwk, .int (nI rx), .int (nI mn), .ref arow, .ref abox, .ref awrd, .int (nI rd), .ref ablk, .ref amov, .int (nI za), .int (nI zb), .ref ahA, .ref ahB, .ref ahC, .ref anum, .ref amsg, .ref astr]))]) hx hb hts (by decide +kernel) tyX8 tyX8_ok nmX8 hown hK hP hD hS 0 rfl rfl 0 (by decide) (hts (.fieldLink RX8 63 "NumeralCipherModel" "thrown" "I") (by decide +kernel)) rfl rfl (by decide +kernel) (Nat.le_of_ble_eq_true rfl) rfl dX8_radix_2 (fun H locs hP hD hS => ?_)
  refine lv_aload_n hx hb dX8_radix_5 rfl (lv_at hl 0 rfl) ?_
  refine lv_iload_n hx hb dX8_radix_6 rfl (lv_at hl 1 rfl) ?_
  refine lv_i2l (v := lN r) hx hb dX8_radix_7 (nI_l (by omega)) ?_
  refine lv_ldc2 (own := RX8) (v := (2 : Int64)) hx hb hown (hts (.constantLong RX8 144 (2)) (by decide +kernel)) dX8_radix_8 ?_
  refine gv_topl (y := lN 2) (by decide +kernel) ?_
  refine lv_ldc2 (own := RX8) (v := (65536 : Int64)) hx hb hown (hts (.constantLong RX8 146 (65536)) (by decide +kernel)) dX8_radix_11 ?_
  refine gv_topl (y := lN 65536) (by decide +kernel) ?_
  refine gv_callR (W.runS (As := [.long (lN r), .long (lN 2), .long (lN 65536)]) (rest := [.ref mo]) ⟨hx, hb, hml, hown, hts⟩ (c_X8_in_1 l (lN r) (lN 2) (lN 65536) ((in_nat (v := r) (a := 2) (b := 65536) (by omega) (by omega) (by omega)).1) ((in_nat (v := r) (a := 2) (b := 65536) (by omega) (by omega) (by omega)).2)) (va_cwS 3 hts gX8_radix_X8_in rfl rfl rfl (by decide +kernel) ⟨Nat.le_of_ble_eq_true rfl, Nat.le_of_ble_eq_true rfl⟩) ⟨fun a U g mk q => q, fun U hU hW => ⟨rfl, trivial⟩⟩ rfl rfl hl.1 rfl (lv_room (Nat.le_of_ble_eq_true rfl)) dX8_radix_14 ⟨Nat.zero_le _, Nat.zero_le _⟩) ?_
  refine gv_if_ne (tgt := 24) hx hb dX8_radix_17 (by decide) (by omega) (fun c_17 => ?_) (fun c_17 => ?_)
  ·
    refine lv_iconst (v := nI 0) hx hb dX8_radix_24 (by decide) ?_
    refine lv_iconst (v := nI 1) hx hb dX8_radix_25 (by decide) ?_
    have hPc := hP.sub (ws' := [(mo, .inr (7, [.int (nI 0), .int (nI by_), .ref abuf, .int (nI ks), .ref akey, .int (nI ts), .ref atwk, .int (nI rx), .int (nI mn), .ref arow, .ref abox, .ref awrd, .int (nI rd), .ref ablk, .ref amov, .int (nI za), .int (nI zb), .ref ahA, .ref ahB, .ref ahC, .ref anum, .ref amsg, .ref astr]))]) [0] rfl
    have hDc := hD.sub (ws' := [(mo, .inr (7, [.int (nI 0), .int (nI by_), .ref abuf, .int (nI ks), .ref akey, .int (nI ts), .ref atwk, .int (nI rx), .int (nI mn), .ref arow, .ref abox, .ref awrd, .int (nI rd), .ref ablk, .ref amov, .int (nI za), .int (nI zb), .ref ahA, .ref ahB, .ref ahC, .ref anum, .ref amsg, .ref astr]))]) [0] (by decide) rfl
    refine gv_callR (W.runV (As := [.int (nI 0), .int (nI 1)]) (rest := []) ⟨hx, hb, hml, hown, hts⟩ (c_X8_refuses_0 l dC dI cI H.size mo abuf akey atwk arow abox awrd ablk amov ahA ahB ahC anum amsg astr 0 by_ ks ts rx mn rd za zb 1 ) (cwV 2 hts gX8_radix_X8_refuses rfl rfl rfl (by decide +kernel) ⟨Nat.le_of_ble_eq_true rfl, Nat.le_of_ble_eq_true rfl⟩) ⟨gPc_blind, va_recv hK hPc (ci := 7) (q0 := 0) rfl rfl, gPc_pre hPc hK hDc⟩ rfl rfl hl.1 rfl (lv_room (Nat.le_of_ble_eq_true rfl)) dX8_radix_26 ⟨Nat.zero_le _, Nat.zero_le _⟩) ?_
    clear hPc hDc
    refine gv_if_eq (tgt := 34) hx hb dX8_radix_29 (by decide) (by omega) (fun c_29 => ?_) (fun c_29 => ?_)
    ·
      refine lv_aload_n hx hb dX8_radix_34 rfl (lv_at hl 0 rfl) ?_
      refine gv_get (own := RX8) (D := (dC, dI)) (ci := 7) (C := RX8) (T := TX8) (N := 23) (v := .int (nI mn)) hx hb hts (by decide +kernel) hown hK hP 0 rfl rfl 8 (by decide) (hts (.fieldLink RX8 89 "NumeralCipherModel" "many" "I") (by decide +kernel)) rfl rfl dX8_radix_35 ?_
      refine lv_istore_n (lv' := [(2, .int (nI mn)), (0, .ref mo), (1, .int (nI r))]) hx hb dX8_radix_38 rfl hl (by decide) rfl (fun ls hl => ?_)
      refine lv_aload_n hx hb dX8_radix_39 rfl (lv_at hl 1 rfl) ?_
      refine lv_iload_n hx hb dX8_radix_40 rfl (lv_at hl 2 rfl) ?_
      refine gv_put (own := RX8) (D := (dC, dI)) (ci := 7) (C := RX8) (T := TX8) (N := 23) (ws' := [(mo, .inr (7, [.int (nI 0), .int (nI by_), .ref abuf, .int (nI ks), .ref akey, .int (nI ts), .ref atwk, .int (nI r), .int (nI mn), .ref arow, .ref abox, .ref awrd, .int (nI rd), .ref ablk, .ref amov, .int (nI za), .int (nI zb), .ref ahA, .ref ahB, .ref ahC, .ref anum, .ref amsg, .ref astr]))]) hx hb hts (by decide +kernel) tyX8 tyX8_ok nmX8 hown hK hP hD hS 0 rfl rfl 7 (by decide) (hts (.fieldLink RX8 23 "NumeralCipherModel" "radix" "I") (by decide +kernel)) rfl rfl (by decide +kernel) (Nat.le_of_ble_eq_true rfl) rfl dX8_radix_41 (fun H locs hP hD hS => ?_)
      refine lv_aload_n hx hb dX8_radix_44 rfl (lv_at hl 1 rfl) ?_
      refine lv_iconst (v := nI 0) hx hb dX8_radix_45 (by decide) ?_
      refine gv_put (own := RX8) (D := (dC, dI)) (ci := 7) (C := RX8) (T := TX8) (N := 23) (ws' := [(mo, .inr (7, [.int (nI 0), .int (nI by_), .ref abuf, .int (nI ks), .ref akey, .int (nI ts), .ref atwk, .int (nI r), .int (nI 0), .ref arow, .ref abox, .ref awrd, .int (nI rd), .ref ablk, .ref amov, .int (nI za), .int (nI zb), .ref ahA, .ref ahB, .ref ahC, .ref anum, .ref amsg, .ref astr]))]) hx hb hts (by decide +kernel) tyX8 tyX8_ok nmX8 hown hK hP hD hS 0 rfl rfl 8 (by decide) (hts (.fieldLink RX8 89 "NumeralCipherModel" "many" "I") (by decide +kernel)) rfl rfl (by decide +kernel) (Nat.le_of_ble_eq_true rfl) rfl dX8_radix_46 (fun H locs hP hD hS => ?_)
      refine lv_iload_n hx hb dX8_radix_49 rfl (lv_at hl 0 rfl) ?_
      exact W.iret (v := (nI mn)) hx hb hr (fun t ht hW => ⟨⟨_, (), rfl, rfl, gB_end ht hW hP hK hD⟩, hS.F ht⟩) hS.2.2 dX8_radix_50
    ·
      exact absurd c_29 (by decide)
  ·
    exact absurd c_17 (by decide)

set_option maxHeartbeats 4000000 in
set_option maxRecDepth 100000 in
/-- radix: b1 -/
theorem c_X8_radix_b1 (l : Launch) (dC : Nat → ClassId) (dI : Nat → Nat → Nat) (cI : ClassId) (sz : Nat) (mo : Nat) (abuf : Nat) (akey : Nat) (atwk : Nat) (arow : Nat) (abox : Nat) (awrd : Nat) (ablk : Nat) (amov : Nat) (ahA : Nat) (ahB : Nat) (ahC : Nat) (anum : Nat) (amsg : Nat) (astr : Nat) (th : Nat) (by_ : Nat) (ks : Nat) (ts : Nat) (rx : Nat) (mn : Nat) (rd : Nat) (za : Nat) (zb : Nat) (x : Int32) (hbad : x.toInt < 2 ∨ 65536 < x.toInt) : Met l yX8_radix wsX8_radix ({ frames := 1, cells := 0, slots := 0, locals := 25 }) (gPc dC dI cI [.ref mo, .int x] [(mo, .inr (7, [.int (nI th), .int (nI by_), .ref abuf, .int (nI ks), .ref akey, .int (nI ts), .ref atwk, .int (nI rx), .int (nI mn), .ref arow, .ref abox, .ref awrd, .int (nI rd), .ref ablk, .ref amov, .int (nI za), .int (nI zb), .ref ahA, .ref ahB, .ref ahC, .ref anum, .ref amsg, .ref astr]))] sz) (va_Qi (fun (r : Int32) (_u : Unit) => r = (nI 0)) (fun _u t => gB dC dI cI (va_A [(mo, .inr (7, [.int (nI th), .int (nI by_), .ref abuf, .int (nI ks), .ref akey, .int (nI ts), .ref atwk, .int (nI rx), .int (nI mn), .ref arow, .ref abox, .ref awrd, .int (nI rd), .ref ablk, .ref amov, .int (nI za), .int (nI zb), .ref ahA, .ref ahB, .ref ahC, .ref anum, .ref amsg, .ref astr]))] sz) [(mo, .inr (7, [.int (nI 1), .int (nI by_), .ref abuf, .int (nI ks), .ref akey, .int (nI ts), .ref atwk, .int (nI rx), .int (nI mn), .ref arow, .ref abox, .ref awrd, .int (nI rd), .ref ablk, .ref amov, .int (nI za), .int (nI zb), .ref ahA, .ref ahB, .ref ahC, .ref anum, .ref amsg, .ref astr]))] t) (va_A [(mo, .inr (7, [.int (nI th), .int (nI by_), .ref abuf, .int (nI ks), .ref akey, .int (nI ts), .ref atwk, .int (nI rx), .int (nI mn), .ref arow, .ref abox, .ref awrd, .int (nI rd), .ref ablk, .ref amov, .int (nI za), .int (nI zb), .ref ahA, .ref ahB, .ref ahC, .ref anum, .ref amsg, .ref astr]))] sz)) 0 0 (va_A [(mo, .inr (7, [.int (nI th), .int (nI by_), .ref abuf, .int (nI ks), .ref akey, .int (nI ts), .ref atwk, .int (nI rx), .int (nI mn), .ref arow, .ref abox, .ref awrd, .int (nI rd), .ref ablk, .ref amov, .int (nI za), .int (nI zb), .ref ahA, .ref ahB, .ref ahC, .ref anum, .ref amsg, .ref astr]))] sz) := by
  refine Met.ofW (cc := cX8_radix) (maxL := 3) (ret := (some .int)) (by decide) rfl ?_
  intro p e s m args below meth c s₁ B9 hml hv
  obtain ⟨rfl, hsz, ⟨hP, hK, hD0⟩⟩ := hv
  have hx := B9.exec
  have hb := B9.bytes
  have hr := B9.returns
  have hts := atoms_spec (ws := wsX8_radix) B9.pre
  have hown : s.vm.findClass RX8 = some m.cls := findClass_of_methodNamed B9.named
  have hlocks := B9.notSynchronized
  subst hsz
  have hD := hD0.self (sz := s.heap.size)
  generalize hAe : va_A [(mo, .inr (7, [.int (nI th), .int (nI by_), .ref abuf, .int (nI ks), .ref akey, .int (nI ts), .ref atwk, .int (nI rx), .int (nI mn), .ref arow, .ref abox, .ref awrd, .int (nI rd), .ref ablk, .ref amov, .int (nI za), .int (nI zb), .ref ahA, .ref ahB, .ref ahC, .ref anum, .ref amsg, .ref astr]))] s.heap.size = A at hD ⊢
  have hA : ∀ q : Nat, s.heap.size ≤ q → A q := fun q h => by rw [← hAe]; exact Or.inr h
  have hS : va_S A s.heap s.heap [] := va_S.rf
  have hl := lv_entry ([.ref mo, .int x]) (n := 3) (Nat.le_of_ble_eq_true rfl)
  rw [lg_entry_eq]
  generalize (lg_sl ([.ref mo, .int x]) ++ List.replicate (3 - (lg_sl ([.ref mo, .int x])).length) Slot.unset).toArray = ls at hl ⊢
  have hl : lv_has ls 3 [(0, .ref mo), (1, .int x)] := hl
  refine lv_aload_n hx hb dX8_radix_0 rfl (lv_at hl 0 rfl) ?_
  refine lv_iconst (v := nI 0) hx hb dX8_radix_1 (by decide) ?_
  refine gv_put (own := RX8) (D := (dC, dI)) (ci := 7) (C := RX8) (T := TX8) (N := 23) (ws' := [(mo, .inr (7, [.int (nI 0), .int (nI by_), .ref abuf, .int (nI ks), .ref akey, .int (nI ts), .ref atwk, .int (nI rx), .int (nI mn), .ref arow, .ref abox, .ref awrd, .int (nI rd), .ref ablk, .ref amov, .int (nI za), .int (nI zb), .ref ahA, .ref ahB, .ref ahC, .ref anum, .ref amsg, .ref astr]))]) hx hb hts (by decide +kernel) tyX8 tyX8_ok nmX8 hown hK hP hD hS 0 rfl rfl 0 (by decide) (hts (.fieldLink RX8 63 "NumeralCipherModel" "thrown" "I") (by decide +kernel)) rfl rfl (by decide +kernel) (Nat.le_of_ble_eq_true rfl) rfl dX8_radix_2 (fun H locs hP hD hS => ?_)
  refine lv_aload_n hx hb dX8_radix_5 rfl (lv_at hl 0 rfl) ?_
  refine lv_iload_n hx hb dX8_radix_6 rfl (lv_at hl 1 rfl) ?_
  refine lv_i2l (v := x.toInt64) hx hb dX8_radix_7 rfl ?_
  refine lv_ldc2 (own := RX8) (v := (2 : Int64)) hx hb hown (hts (.constantLong RX8 144 (2)) (by decide +kernel)) dX8_radix_8 ?_
  refine gv_topl (y := lN 2) (by decide +kernel) ?_
  refine lv_ldc2 (own := RX8) (v := (65536 : Int64)) hx hb hown (hts (.constantLong RX8 146 (65536)) (by decide +kernel)) dX8_radix_11 ?_
  refine gv_topl (y := lN 65536) (by decide +kernel) ?_
  refine gv_callR (W.runS (As := [.long x.toInt64, .long (lN 2), .long (lN 65536)]) (rest := [.ref mo]) ⟨hx, hb, hml, hown, hts⟩ (c_X8_in_0 l x.toInt64 (lN 2) (lN 65536) (in_raw (pk_lT (by decide)) (pk_lT (by decide)) (by omega))) (va_cwS 3 hts gX8_radix_X8_in rfl rfl rfl (by decide +kernel) ⟨Nat.le_of_ble_eq_true rfl, Nat.le_of_ble_eq_true rfl⟩) ⟨fun a U g mk q => q, fun U hU hW => ⟨rfl, trivial⟩⟩ rfl rfl hl.1 rfl (lv_room (Nat.le_of_ble_eq_true rfl)) dX8_radix_14 ⟨Nat.zero_le _, Nat.zero_le _⟩) ?_
  refine gv_if_ne (tgt := 24) hx hb dX8_radix_17 (by decide) (by omega) (fun c_17 => ?_) (fun c_17 => ?_)
  ·
    exact absurd c_17 (by decide)
  ·
    refine lv_iconst (v := nI 1) hx hb dX8_radix_20 (by decide) ?_
    refine lv_goto (tgt := 25) hx hb dX8_radix_21 (by decide) ?_
    refine lv_iconst (v := nI 1) hx hb dX8_radix_25 (by decide) ?_
    have hPc := hP.sub (ws' := [(mo, .inr (7, [.int (nI 0), .int (nI by_), .ref abuf, .int (nI ks), .ref akey, .int (nI ts), .ref atwk, .int (nI rx), .int (nI mn), .ref arow, .ref abox, .ref awrd, .int (nI rd), .ref ablk, .ref amov, .int (nI za), .int (nI zb), .ref ahA, .ref ahB, .ref ahC, .ref anum, .ref amsg, .ref astr]))]) [0] rfl
    have hDc := hD.sub (ws' := [(mo, .inr (7, [.int (nI 0), .int (nI by_), .ref abuf, .int (nI ks), .ref akey, .int (nI ts), .ref atwk, .int (nI rx), .int (nI mn), .ref arow, .ref abox, .ref awrd, .int (nI rd), .ref ablk, .ref amov, .int (nI za), .int (nI zb), .ref ahA, .ref ahB, .ref ahC, .ref anum, .ref amsg, .ref astr]))]) [0] (by decide) rfl
    have hFc := va_free (wc := [(mo, .inr (7, [.int (nI 0), .int (nI by_), .ref abuf, .int (nI ks), .ref akey, .int (nI ts), .ref atwk, .int (nI rx), .int (nI mn), .ref arow, .ref abox, .ref awrd, .int (nI rd), .ref ablk, .ref amov, .int (nI za), .int (nI zb), .ref ahA, .ref ahB, .ref ahC, .ref anum, .ref amsg, .ref astr]))]) hD hS hA [0] rfl
    refine va_calli (va_runV (As := [.int (nI 1), .int (nI 1)]) (rest := []) ⟨hx, hb, hml, hown, hts⟩ (c_X8_refuses_1 l dC dI cI H.size mo abuf akey atwk arow abox awrd ablk amov ahA ahB ahC anum amsg astr 0 by_ ks ts rx mn rd za zb 1 (by omega) (by omega)) (cwV 2 hts gX8_radix_X8_refuses rfl rfl rfl (by decide +kernel) ⟨Nat.le_of_ble_eq_true rfl, Nat.le_of_ble_eq_true rfl⟩) ⟨gPc_blind, va_recv hK hPc (ci := 7) (q0 := 0) rfl rfl, gPc_pre hPc hK hDc⟩ rfl rfl hl.1 rfl (lv_room (Nat.le_of_ble_eq_true rfl)) dX8_radix_26 ⟨Nat.zero_le _, Nat.zero_le _⟩) hS (fun q _ h => hFc q h) hFc (fun r9 u8 t8 H1 locs ht hvm hw hB hz1 hk1 hS => ?_)
    try dsimp only at hw hB
    obtain ⟨hP, hD⟩ := gB_join (wr := []) (w2 := [(mo, .inr (7, [.int (nI 1), .int (nI by_), .ref abuf, .int (nI ks), .ref akey, .int (nI ts), .ref atwk, .int (nI rx), .int (nI mn), .ref arow, .ref abox, .ref awrd, .int (nI rd), .ref ablk, .ref amov, .int (nI za), .int (nI zb), .ref ahA, .ref ahB, .ref ahC, .ref anum, .ref amsg, .ref astr]))]) hP hD [0] [] rfl rfl (by decide) (by decide) hk1 hFc ht hB rfl
    clear hk1 hz1 ht hB hvm hPc hDc hFc
    generalize H1 = H at hP hS ⊢
    subst hw
    refine gv_if_eq (tgt := 34) hx hb dX8_radix_29 (by decide) (by omega) (fun c_29 => ?_) (fun c_29 => ?_)
    ·
      exact absurd c_29 (by decide)
    ·
      refine lv_iconst (v := nI 0) hx hb dX8_radix_32 (by decide) ?_
      exact W.iret (v := (nI 0)) hx hb hr (fun t ht hW => ⟨⟨_, (), rfl, rfl, gB_end ht hW hP hK hD⟩, hS.F ht⟩) hS.2.2 dX8_radix_33

set_option maxHeartbeats 4000000 in
set_option maxRecDepth 100000 in
/-- numeral: ok -/
theorem c_X8_numeral_ok (l : Launch) (dC : Nat → ClassId) (dI : Nat → Nat → Nat) (cI : ClassId) (sz : Nat) (mo : Nat) (abuf : Nat) (akey : Nat) (atwk : Nat) (arow : Nat) (abox : Nat) (awrd : Nat) (ablk : Nat) (amov : Nat) (ahA : Nat) (ahB : Nat) (ahC : Nat) (anum : Nat) (amsg : Nat) (astr : Nat) (th : Nat) (by_ : Nat) (ks : Nat) (ts : Nat) (rx : Nat) (mn : Nat) (rd : Nat) (za : Nat) (zb : Nat) (n : Nat) (ro : Nat → Nat) (hn : n < rx) (hr2 : rx ≤ 65536) (hm : mn < 64) : Met l yX8_numeral wsX8_numeral ({ frames := 1, cells := 0, slots := 0, locals := 25 }) (gPc dC dI cI [.ref mo, .int (nI n)] [(mo, .inr (7, [.int (nI th), .int (nI by_), .ref abuf, .int (nI ks), .ref akey, .int (nI ts), .ref atwk, .int (nI rx), .int (nI mn), .ref arow, .ref abox, .ref awrd, .int (nI rd), .ref ablk, .ref amov, .int (nI za), .int (nI zb), .ref ahA, .ref ahB, .ref ahC, .ref anum, .ref amsg, .ref astr])), (arow, .inl (cI, 64, .inl (gA ro)))] sz) (va_Qi (fun (r : Int32) (_u : Unit) => r = (nI (mn + 1))) (fun _u t => gB dC dI cI (va_A [(mo, .inr (7, [.int (nI th), .int (nI by_), .ref abuf, .int (nI ks), .ref akey, .int (nI ts), .ref atwk, .int (nI rx), .int (nI mn), .ref arow, .ref abox, .ref awrd, .int (nI rd), .ref ablk, .ref amov, .int (nI za), .int (nI zb), .ref ahA, .ref ahB, .ref ahC, .ref anum, .ref amsg, .ref astr])), (arow, .inl (cI, 64, .inl (gA ro)))] sz) [(mo, .inr (7, [.int (nI 0), .int (nI by_), .ref abuf, .int (nI ks), .ref akey, .int (nI ts), .ref atwk, .int (nI rx), .int (nI (mn + 1)), .ref arow, .ref abox, .ref awrd, .int (nI rd), .ref ablk, .ref amov, .int (nI za), .int (nI zb), .ref ahA, .ref ahB, .ref ahC, .ref anum, .ref amsg, .ref astr])), (arow, .inl (cI, 64, .inl (gA (gU ro mn n))))] t) (va_A [(mo, .inr (7, [.int (nI th), .int (nI by_), .ref abuf, .int (nI ks), .ref akey, .int (nI ts), .ref atwk, .int (nI rx), .int (nI mn), .ref arow, .ref abox, .ref awrd, .int (nI rd), .ref ablk, .ref amov, .int (nI za), .int (nI zb), .ref ahA, .ref ahB, .ref ahC, .ref anum, .ref amsg, .ref astr])), (arow, .inl (cI, 64, .inl (gA ro)))] sz)) 0 0 (va_A [(mo, .inr (7, [.int (nI th), .int (nI by_), .ref abuf, .int (nI ks), .ref akey, .int (nI ts), .ref atwk, .int (nI rx), .int (nI mn), .ref arow, .ref abox, .ref awrd, .int (nI rd), .ref ablk, .ref amov, .int (nI za), .int (nI zb), .ref ahA, .ref ahB, .ref ahC, .ref anum, .ref amsg, .ref astr])), (arow, .inl (cI, 64, .inl (gA ro)))] sz) := by
  refine Met.ofW (cc := cX8_numeral) (maxL := 2) (ret := (some .int)) (by decide) rfl ?_
  intro p e s m args below meth c s₁ B9 hml hv
  obtain ⟨rfl, hsz, ⟨hP, hK, hD0⟩⟩ := hv
  have hx := B9.exec
  have hb := B9.bytes
  have hr := B9.returns
  have hts := atoms_spec (ws := wsX8_numeral) B9.pre
  have hown : s.vm.findClass RX8 = some m.cls := findClass_of_methodNamed B9.named
  have hlocks := B9.notSynchronized
  subst hsz
  have hD := hD0.self (sz := s.heap.size)
  generalize hAe : va_A [(mo, .inr (7, [.int (nI th), .int (nI by_), .ref abuf, .int (nI ks), .ref akey, .int (nI ts), .ref atwk, .int (nI rx), .int (nI mn), .ref arow, .ref abox, .ref awrd, .int (nI rd), .ref ablk, .ref amov, .int (nI za), .int (nI zb), .ref ahA, .ref ahB, .ref ahC, .ref anum, .ref amsg, .ref astr])), (arow, .inl (cI, 64, .inl (gA ro)))] s.heap.size = A at hD ⊢
  have hA : ∀ q : Nat, s.heap.size ≤ q → A q := fun q h => by rw [← hAe]; exact Or.inr h
  have hS : va_S A s.heap s.heap [] := va_S.rf
  have hl := lv_entry ([.ref mo, .int (nI n)]) (n := 2) (Nat.le_of_ble_eq_true rfl)
  rw [lg_entry_eq]
  generalize (lg_sl ([.ref mo, .int (nI n)]) ++ List.replicate (2 - (lg_sl ([.ref mo, .int (nI n)])).length) Slot.unset).toArray = ls at hl ⊢
  have hl : lv_has ls 2 [(0, .ref mo), (1, .int (nI n))] := hl
  refine lv_aload_n hx hb dX8_numeral_0 rfl (lv_at hl 0 rfl) ?_
  refine lv_iconst (v := nI 0) hx hb dX8_numeral_1 (by decide) ?_
  refine gv_put (own := RX8) (D := (dC, dI)) (ci := 7) (C := RX8) (T := TX8) (N := 23) (ws' := [(mo, .inr (7, [.int (nI 0), .int (nI by_), .ref abuf, .int (nI ks), .ref akey, .int (nI ts), .ref atwk, .int (nI rx), .int (nI mn), .ref arow, .ref abox, .ref awrd, .int (nI rd), .ref ablk, .ref amov, .int (nI za), .int (nI zb), .ref ahA, .ref ahB, .ref ahC, .ref anum, .ref amsg, .ref astr])), (arow, .inl (cI, 64, .inl (gA ro)))]) hx hb hts (by decide +kernel) tyX8 tyX8_ok nmX8 hown hK hP hD hS 0 rfl rfl 0 (by decide) (hts (.fieldLink RX8 63 "NumeralCipherModel" "thrown" "I") (by decide +kernel)) rfl rfl (by decide +kernel) (Nat.le_of_ble_eq_true rfl) rfl dX8_numeral_2 (fun H locs hP hD hS => ?_)
  refine lv_aload_n hx hb dX8_numeral_5 rfl (lv_at hl 0 rfl) ?_
  refine lv_iload_n hx hb dX8_numeral_6 rfl (lv_at hl 1 rfl) ?_
  refine lv_i2l (v := lN n) hx hb dX8_numeral_7 (nI_l (by omega)) ?_
  refine lv_lconst (v := lN 0) hx hb dX8_numeral_8 (by decide) ?_
  refine lv_aload_n hx hb dX8_numeral_9 rfl (lv_at hl 0 rfl) ?_
  refine gv_get (own := RX8) (D := (dC, dI)) (ci := 7) (C := RX8) (T := TX8) (N := 23) (v := .int (nI rx)) hx hb hts (by decide +kernel) hown hK hP 0 rfl rfl 7 (by decide) (hts (.fieldLink RX8 23 "NumeralCipherModel" "radix" "I") (by decide +kernel)) rfl rfl dX8_numeral_10 ?_
  refine lv_iconst (v := nI 1) hx hb dX8_numeral_13 (by decide) ?_
  refine gv_isub (r := rx - 1) hx hb dX8_numeral_14 (by omega) ?_
  refine lv_i2l (v := lN (rx - 1)) hx hb dX8_numeral_15 (nI_l (by omega)) ?_
  refine gv_callR (W.runS (As := [.long (lN n), .long (lN 0), .long (lN (rx - 1))]) (rest := [.ref mo]) ⟨hx, hb, hml, hown, hts⟩ (c_X8_in_1 l (lN n) (lN 0) (lN (rx - 1)) ((in_nat (v := n) (a := 0) (b := rx - 1) (by omega) (by omega) (by omega)).1) ((in_nat (v := n) (a := 0) (b := rx - 1) (by omega) (by omega) (by omega)).2)) (va_cwS 3 hts gX8_numeral_X8_in rfl rfl rfl (by decide +kernel) ⟨Nat.le_of_ble_eq_true rfl, Nat.le_of_ble_eq_true rfl⟩) ⟨fun a U g mk q => q, fun U hU hW => ⟨rfl, trivial⟩⟩ rfl rfl hl.1 rfl (lv_room (Nat.le_of_ble_eq_true rfl)) dX8_numeral_16 ⟨Nat.zero_le _, Nat.zero_le _⟩) ?_
  refine gv_if_ne (tgt := 26) hx hb dX8_numeral_19 (by decide) (by omega) (fun c_19 => ?_) (fun c_19 => ?_)
  ·
    refine lv_iconst (v := nI 0) hx hb dX8_numeral_26 (by decide) ?_
    refine lv_iconst (v := nI 1) hx hb dX8_numeral_27 (by decide) ?_
    have hPc := hP.sub (ws' := [(mo, .inr (7, [.int (nI 0), .int (nI by_), .ref abuf, .int (nI ks), .ref akey, .int (nI ts), .ref atwk, .int (nI rx), .int (nI mn), .ref arow, .ref abox, .ref awrd, .int (nI rd), .ref ablk, .ref amov, .int (nI za), .int (nI zb), .ref ahA, .ref ahB, .ref ahC, .ref anum, .ref amsg, .ref astr]))]) [0] rfl
    have hDc := hD.sub (ws' := [(mo, .inr (7, [.int (nI 0), .int (nI by_), .ref abuf, .int (nI ks), .ref akey, .int (nI ts), .ref atwk, .int (nI rx), .int (nI mn), .ref arow, .ref abox, .ref awrd, .int (nI rd), .ref ablk, .ref amov, .int (nI za), .int (nI zb), .ref ahA, .ref ahB, .ref ahC, .ref anum, .ref amsg, .ref astr]))]) [0] (by decide) rfl
    refine gv_callR (W.runV (As := [.int (nI 0), .int (nI 1)]) (rest := []) ⟨hx, hb, hml, hown, hts⟩ (c_X8_refuses_0 l dC dI cI H.size mo abuf akey atwk arow abox awrd ablk amov ahA ahB ahC anum amsg astr 0 by_ ks ts rx mn rd za zb 1 ) (cwV 2 hts gX8_numeral_X8_refuses rfl rfl rfl (by decide +kernel) ⟨Nat.le_of_ble_eq_true rfl, Nat.le_of_ble_eq_true rfl⟩) ⟨gPc_blind, va_recv hK hPc (ci := 7) (q0 := 0) rfl rfl, gPc_pre hPc hK hDc⟩ rfl rfl hl.1 rfl (lv_room (Nat.le_of_ble_eq_true rfl)) dX8_numeral_28 ⟨Nat.zero_le _, Nat.zero_le _⟩) ?_
    clear hPc hDc
    refine gv_if_ne (tgt := 56) hx hb dX8_numeral_31 (by decide) (by omega) (fun c_31 => ?_) (fun c_31 => ?_)
    ·
      exact absurd c_31 (by decide)
    ·
      refine lv_aload_n hx hb dX8_numeral_34 rfl (lv_at hl 0 rfl) ?_
      refine lv_aload_n hx hb dX8_numeral_35 rfl (lv_at hl 0 rfl) ?_
      refine gv_get (own := RX8) (D := (dC, dI)) (ci := 7) (C := RX8) (T := TX8) (N := 23) (v := .int (nI mn)) hx hb hts (by decide +kernel) hown hK hP 0 rfl rfl 8 (by decide) (hts (.fieldLink RX8 89 "NumeralCipherModel" "many" "I") (by decide +kernel)) rfl rfl dX8_numeral_36 ?_
      refine lv_bipush (v := nI 64) hx hb dX8_numeral_39 (by decide) ?_
      refine gv_icmp_ne (tgt := 48) hx hb dX8_numeral_41 (by decide) (by omega) (by omega) (fun c_41 => ?_) (fun c_41 => ?_)
      ·
        refine lv_iconst (v := nI 0) hx hb dX8_numeral_48 (by decide) ?_
        refine lv_iconst (v := nI 2) hx hb dX8_numeral_49 (by decide) ?_
        have hPc := hP.sub (ws' := [(mo, .inr (7, [.int (nI 0), .int (nI by_), .ref abuf, .int (nI ks), .ref akey, .int (nI ts), .ref atwk, .int (nI rx), .int (nI mn), .ref arow, .ref abox, .ref awrd, .int (nI rd), .ref ablk, .ref amov, .int (nI za), .int (nI zb), .ref ahA, .ref ahB, .ref ahC, .ref anum, .ref amsg, .ref astr]))]) [0] rfl
        have hDc := hD.sub (ws' := [(mo, .inr (7, [.int (nI 0), .int (nI by_), .ref abuf, .int (nI ks), .ref akey, .int (nI ts), .ref atwk, .int (nI rx), .int (nI mn), .ref arow, .ref abox, .ref awrd, .int (nI rd), .ref ablk, .ref amov, .int (nI za), .int (nI zb), .ref ahA, .ref ahB, .ref ahC, .ref anum, .ref amsg, .ref astr]))]) [0] (by decide) rfl
        refine gv_callR (W.runV (As := [.int (nI 0), .int (nI 2)]) (rest := []) ⟨hx, hb, hml, hown, hts⟩ (c_X8_refuses_0 l dC dI cI H.size mo abuf akey atwk arow abox awrd ablk amov ahA ahB ahC anum amsg astr 0 by_ ks ts rx mn rd za zb 2 ) (cwV 2 hts gX8_numeral_X8_refuses rfl rfl rfl (by decide +kernel) ⟨Nat.le_of_ble_eq_true rfl, Nat.le_of_ble_eq_true rfl⟩) ⟨gPc_blind, va_recv hK hPc (ci := 7) (q0 := 0) rfl rfl, gPc_pre hPc hK hDc⟩ rfl rfl hl.1 rfl (lv_room (Nat.le_of_ble_eq_true rfl)) dX8_numeral_50 ⟨Nat.zero_le _, Nat.zero_le _⟩) ?_
        clear hPc hDc
        refine gv_if_eq (tgt := 58) hx hb dX8_numeral_53 (by decide) (by omega) (fun c_53 => ?_) (fun c_53 => ?_)
        ·
          refine lv_aload_n hx hb dX8_numeral_58 rfl (lv_at hl 0 rfl) ?_
          refine gv_get (own := RX8) (D := (dC, dI)) (ci := 7) (C := RX8) (T := TX8) (N := 23) (v := .ref arow) hx hb hts (by decide +kernel) hown hK hP 0 rfl rfl 9 (by decide) (hts (.fieldLink RX8 26 "NumeralCipherModel" "row" "[I") (by decide +kernel)) rfl rfl dX8_numeral_59 ?_
          refine lv_aload_n hx hb dX8_numeral_62 rfl (lv_at hl 0 rfl) ?_
          refine gv_get (own := RX8) (D := (dC, dI)) (ci := 7) (C := RX8) (T := TX8) (N := 23) (v := .int (nI mn)) hx hb hts (by decide +kernel) hown hK hP 0 rfl rfl 8 (by decide) (hts (.fieldLink RX8 89 "NumeralCipherModel" "many" "I") (by decide +kernel)) rfl rfl dX8_numeral_63 ?_
          refine lv_iload_n hx hb dX8_numeral_66 rfl (lv_at hl 1 rfl) ?_
          refine gv_iast (ws' := [(mo, .inr (7, [.int (nI 0), .int (nI by_), .ref abuf, .int (nI ks), .ref akey, .int (nI ts), .ref atwk, .int (nI rx), .int (nI mn), .ref arow, .ref abox, .ref awrd, .int (nI rd), .ref ablk, .ref amov, .int (nI za), .int (nI zb), .ref ahA, .ref ahB, .ref ahC, .ref anum, .ref amsg, .ref astr])), (arow, .inl (cI, 64, .inl (gA (gU ro mn n))))]) hx hb hK hP hD hS 1 0 rfl rfl rfl (by omega) (by omega) dX8_numeral_67 (fun H locs hP hD hS => ?_)
          refine lv_aload_n hx hb dX8_numeral_68 rfl (lv_at hl 0 rfl) ?_
          refine lv_dup hx hb dX8_numeral_69 rfl ?_
          refine gv_get (own := RX8) (D := (dC, dI)) (ci := 7) (C := RX8) (T := TX8) (N := 23) (v := .int (nI mn)) hx hb hts (by decide +kernel) hown hK hP 0 rfl rfl 8 (by decide) (hts (.fieldLink RX8 89 "NumeralCipherModel" "many" "I") (by decide +kernel)) rfl rfl dX8_numeral_70 ?_
          refine lv_iconst (v := nI 1) hx hb dX8_numeral_73 (by decide) ?_
          refine gv_iadd (r := mn + 1) hx hb dX8_numeral_74 rfl ?_
          refine gv_put (own := RX8) (D := (dC, dI)) (ci := 7) (C := RX8) (T := TX8) (N := 23) (ws' := [(mo, .inr (7, [.int (nI 0), .int (nI by_), .ref abuf, .int (nI ks), .ref akey, .int (nI ts), .ref atwk, .int (nI rx), .int (nI (mn + 1)), .ref arow, .ref abox, .ref awrd, .int (nI rd), .ref ablk, .ref amov, .int (nI za), .int (nI zb), .ref ahA, .ref ahB, .ref ahC, .ref anum, .ref amsg, .ref astr])), (arow, .inl (cI, 64, .inl (gA (gU ro mn n))))]) hx hb hts (by decide +kernel) tyX8 tyX8_ok nmX8 hown hK hP hD hS 0 rfl rfl 8 (by decide) (hts (.fieldLink RX8 89 "NumeralCipherModel" "many" "I") (by decide +kernel)) rfl rfl (by decide +kernel) (Nat.le_of_ble_eq_true rfl) rfl dX8_numeral_75 (fun H locs hP hD hS => ?_)
          refine lv_aload_n hx hb dX8_numeral_78 rfl (lv_at hl 0 rfl) ?_
          refine gv_get (own := RX8) (D := (dC, dI)) (ci := 7) (C := RX8) (T := TX8) (N := 23) (v := .int (nI (mn + 1))) hx hb hts (by decide +kernel) hown hK hP 0 rfl rfl 8 (by decide) (hts (.fieldLink RX8 89 "NumeralCipherModel" "many" "I") (by decide +kernel)) rfl rfl dX8_numeral_79 ?_
          exact W.iret (v := (nI (mn + 1))) hx hb hr (fun t ht hW => ⟨⟨_, (), rfl, rfl, gB_end ht hW hP hK hD⟩, hS.F ht⟩) hS.2.2 dX8_numeral_82
        ·
          exact absurd c_53 (by decide)
      ·
        exact absurd c_41 (by omega)
  ·
    exact absurd c_19 (by decide)

set_option maxHeartbeats 4000000 in
set_option maxRecDepth 100000 in
/-- numeral: b1 -/
theorem c_X8_numeral_b1 (l : Launch) (dC : Nat → ClassId) (dI : Nat → Nat → Nat) (cI : ClassId) (sz : Nat) (mo : Nat) (abuf : Nat) (akey : Nat) (atwk : Nat) (arow : Nat) (abox : Nat) (awrd : Nat) (ablk : Nat) (amov : Nat) (ahA : Nat) (ahB : Nat) (ahC : Nat) (anum : Nat) (amsg : Nat) (astr : Nat) (th : Nat) (by_ : Nat) (ks : Nat) (ts : Nat) (rx : Nat) (mn : Nat) (rd : Nat) (za : Nat) (zb : Nat) (x : Int32) (hr2 : rx ≤ 65536) (hbad : x.toInt < 0 ∨ (rx : Int) ≤ x.toInt) : Met l yX8_numeral wsX8_numeral ({ frames := 1, cells := 0, slots := 0, locals := 25 }) (gPc dC dI cI [.ref mo, .int x] [(mo, .inr (7, [.int (nI th), .int (nI by_), .ref abuf, .int (nI ks), .ref akey, .int (nI ts), .ref atwk, .int (nI rx), .int (nI mn), .ref arow, .ref abox, .ref awrd, .int (nI rd), .ref ablk, .ref amov, .int (nI za), .int (nI zb), .ref ahA, .ref ahB, .ref ahC, .ref anum, .ref amsg, .ref astr]))] sz) (va_Qi (fun (r : Int32) (_u : Unit) => r = (nI 0)) (fun _u t => gB dC dI cI (va_A [(mo, .inr (7, [.int (nI th), .int (nI by_), .ref abuf, .int (nI ks), .ref akey, .int (nI ts), .ref atwk, .int (nI rx), .int (nI mn), .ref arow, .ref abox, .ref awrd, .int (nI rd), .ref ablk, .ref amov, .int (nI za), .int (nI zb), .ref ahA, .ref ahB, .ref ahC, .ref anum, .ref amsg, .ref astr]))] sz) [(mo, .inr (7, [.int (nI 1), .int (nI by_), .ref abuf, .int (nI ks), .ref akey, .int (nI ts), .ref atwk, .int (nI rx), .int (nI mn), .ref arow, .ref abox, .ref awrd, .int (nI rd), .ref ablk, .ref amov, .int (nI za), .int (nI zb), .ref ahA, .ref ahB, .ref ahC, .ref anum, .ref amsg, .ref astr]))] t) (va_A [(mo, .inr (7, [.int (nI th), .int (nI by_), .ref abuf, .int (nI ks), .ref akey, .int (nI ts), .ref atwk, .int (nI rx), .int (nI mn), .ref arow, .ref abox, .ref awrd, .int (nI rd), .ref ablk, .ref amov, .int (nI za), .int (nI zb), .ref ahA, .ref ahB, .ref ahC, .ref anum, .ref amsg, .ref astr]))] sz)) 0 0 (va_A [(mo, .inr (7, [.int (nI th), .int (nI by_), .ref abuf, .int (nI ks), .ref akey, .int (nI ts), .ref atwk, .int (nI rx), .int (nI mn), .ref arow, .ref abox, .ref awrd, .int (nI rd), .ref ablk, .ref amov, .int (nI za), .int (nI zb), .ref ahA, .ref ahB, .ref ahC, .ref anum, .ref amsg, .ref astr]))] sz) := by
  refine Met.ofW (cc := cX8_numeral) (maxL := 2) (ret := (some .int)) (by decide) rfl ?_
  intro p e s m args below meth c s₁ B9 hml hv
  obtain ⟨rfl, hsz, ⟨hP, hK, hD0⟩⟩ := hv
  have hx := B9.exec
  have hb := B9.bytes
  have hr := B9.returns
  have hts := atoms_spec (ws := wsX8_numeral) B9.pre
  have hown : s.vm.findClass RX8 = some m.cls := findClass_of_methodNamed B9.named
  have hlocks := B9.notSynchronized
  subst hsz
  have hD := hD0.self (sz := s.heap.size)
  generalize hAe : va_A [(mo, .inr (7, [.int (nI th), .int (nI by_), .ref abuf, .int (nI ks), .ref akey, .int (nI ts), .ref atwk, .int (nI rx), .int (nI mn), .ref arow, .ref abox, .ref awrd, .int (nI rd), .ref ablk, .ref amov, .int (nI za), .int (nI zb), .ref ahA, .ref ahB, .ref ahC, .ref anum, .ref amsg, .ref astr]))] s.heap.size = A at hD ⊢
  have hA : ∀ q : Nat, s.heap.size ≤ q → A q := fun q h => by rw [← hAe]; exact Or.inr h
  have hS : va_S A s.heap s.heap [] := va_S.rf
  have hl := lv_entry ([.ref mo, .int x]) (n := 2) (Nat.le_of_ble_eq_true rfl)
  rw [lg_entry_eq]
  generalize (lg_sl ([.ref mo, .int x]) ++ List.replicate (2 - (lg_sl ([.ref mo, .int x])).length) Slot.unset).toArray = ls at hl ⊢
  have hl : lv_has ls 2 [(0, .ref mo), (1, .int x)] := hl
  refine lv_aload_n hx hb dX8_numeral_0 rfl (lv_at hl 0 rfl) ?_
  refine lv_iconst (v := nI 0) hx hb dX8_numeral_1 (by decide) ?_
  refine gv_put (own := RX8) (D := (dC, dI)) (ci := 7) (C := RX8) (T := TX8) (N := 23) (ws' := [(mo, .inr (7, [.int (nI 0), .int (nI by_), .ref abuf, .int (nI ks), .ref akey, .int (nI ts), .ref atwk, .int (nI rx), .int (nI mn), .ref arow, .ref abox, .ref awrd, .int (nI rd), .ref ablk, .ref amov, .int (nI za), .int (nI zb), .ref ahA, .ref ahB, .ref ahC, .ref anum, .ref amsg, .ref astr]))]) hx hb hts (by decide +kernel) tyX8 tyX8_ok nmX8 hown hK hP hD hS 0 rfl rfl 0 (by decide) (hts (.fieldLink RX8 63 "NumeralCipherModel" "thrown" "I") (by decide +kernel)) rfl rfl (by decide +kernel) (Nat.le_of_ble_eq_true rfl) rfl dX8_numeral_2 (fun H locs hP hD hS => ?_)
  refine lv_aload_n hx hb dX8_numeral_5 rfl (lv_at hl 0 rfl) ?_
  refine lv_iload_n hx hb dX8_numeral_6 rfl (lv_at hl 1 rfl) ?_
  refine lv_i2l (v := x.toInt64) hx hb dX8_numeral_7 rfl ?_
  refine lv_lconst (v := lN 0) hx hb dX8_numeral_8 (by decide) ?_
  refine lv_aload_n hx hb dX8_numeral_9 rfl (lv_at hl 0 rfl) ?_
  refine gv_get (own := RX8) (D := (dC, dI)) (ci := 7) (C := RX8) (T := TX8) (N := 23) (v := .int (nI rx)) hx hb hts (by decide +kernel) hown hK hP 0 rfl rfl 7 (by decide) (hts (.fieldLink RX8 23 "NumeralCipherModel" "radix" "I") (by decide +kernel)) rfl rfl dX8_numeral_10 ?_
  refine lv_iconst (v := nI 1) hx hb dX8_numeral_13 (by decide) ?_
  refine lv_isub hx hb dX8_numeral_14 ?_
  refine lv_i2l (v := ((nI rx) - (nI 1)).toInt64) hx hb dX8_numeral_15 rfl ?_
  refine gv_callR (W.runS (As := [.long x.toInt64, .long (lN 0), .long (((nI rx) - (nI 1)).toInt64)]) (rest := [.ref mo]) ⟨hx, hb, hml, hown, hts⟩ (c_X8_in_0 l x.toInt64 (lN 0) (((nI rx) - (nI 1)).toInt64) (in_raw (pk_lT (by decide)) (in_less (by omega)) (by omega))) (va_cwS 3 hts gX8_numeral_X8_in rfl rfl rfl (by decide +kernel) ⟨Nat.le_of_ble_eq_true rfl, Nat.le_of_ble_eq_true rfl⟩) ⟨fun a U g mk q => q, fun U hU hW => ⟨rfl, trivial⟩⟩ rfl rfl hl.1 rfl (lv_room (Nat.le_of_ble_eq_true rfl)) dX8_numeral_16 ⟨Nat.zero_le _, Nat.zero_le _⟩) ?_
  refine gv_if_ne (tgt := 26) hx hb dX8_numeral_19 (by decide) (by omega) (fun c_19 => ?_) (fun c_19 => ?_)
  ·
    exact absurd c_19 (by decide)
  ·
    refine lv_iconst (v := nI 1) hx hb dX8_numeral_22 (by decide) ?_
    refine lv_goto (tgt := 27) hx hb dX8_numeral_23 (by decide) ?_
    refine lv_iconst (v := nI 1) hx hb dX8_numeral_27 (by decide) ?_
    have hPc := hP.sub (ws' := [(mo, .inr (7, [.int (nI 0), .int (nI by_), .ref abuf, .int (nI ks), .ref akey, .int (nI ts), .ref atwk, .int (nI rx), .int (nI mn), .ref arow, .ref abox, .ref awrd, .int (nI rd), .ref ablk, .ref amov, .int (nI za), .int (nI zb), .ref ahA, .ref ahB, .ref ahC, .ref anum, .ref amsg, .ref astr]))]) [0] rfl
    have hDc := hD.sub (ws' := [(mo, .inr (7, [.int (nI 0), .int (nI by_), .ref abuf, .int (nI ks), .ref akey, .int (nI ts), .ref atwk, .int (nI rx), .int (nI mn), .ref arow, .ref abox, .ref awrd, .int (nI rd), .ref ablk, .ref amov, .int (nI za), .int (nI zb), .ref ahA, .ref ahB, .ref ahC, .ref anum, .ref amsg, .ref astr]))]) [0] (by decide) rfl
    have hFc := va_free (wc := [(mo, .inr (7, [.int (nI 0), .int (nI by_), .ref abuf, .int (nI ks), .ref akey, .int (nI ts), .ref atwk, .int (nI rx), .int (nI mn), .ref arow, .ref abox, .ref awrd, .int (nI rd), .ref ablk, .ref amov, .int (nI za), .int (nI zb), .ref ahA, .ref ahB, .ref ahC, .ref anum, .ref amsg, .ref astr]))]) hD hS hA [0] rfl
    refine va_calli (va_runV (As := [.int (nI 1), .int (nI 1)]) (rest := []) ⟨hx, hb, hml, hown, hts⟩ (c_X8_refuses_1 l dC dI cI H.size mo abuf akey atwk arow abox awrd ablk amov ahA ahB ahC anum amsg astr 0 by_ ks ts rx mn rd za zb 1 (by omega) (by omega)) (cwV 2 hts gX8_numeral_X8_refuses rfl rfl rfl (by decide +kernel) ⟨Nat.le_of_ble_eq_true rfl, Nat.le_of_ble_eq_true rfl⟩) ⟨gPc_blind, va_recv hK hPc (ci := 7) (q0 := 0) rfl rfl, gPc_pre hPc hK hDc⟩ rfl rfl hl.1 rfl (lv_room (Nat.le_of_ble_eq_true rfl)) dX8_numeral_28 ⟨Nat.zero_le _, Nat.zero_le _⟩) hS (fun q _ h => hFc q h) hFc (fun r9 u8 t8 H1 locs ht hvm hw hB hz1 hk1 hS => ?_)
    try dsimp only at hw hB
    obtain ⟨hP, hD⟩ := gB_join (wr := []) (w2 := [(mo, .inr (7, [.int (nI 1), .int (nI by_), .ref abuf, .int (nI ks), .ref akey, .int (nI ts), .ref atwk, .int (nI rx), .int (nI mn), .ref arow, .ref abox, .ref awrd, .int (nI rd), .ref ablk, .ref amov, .int (nI za), .int (nI zb), .ref ahA, .ref ahB, .ref ahC, .ref anum, .ref amsg, .ref astr]))]) hP hD [0] [] rfl rfl (by decide) (by decide) hk1 hFc ht hB rfl
    clear hk1 hz1 ht hB hvm hPc hDc hFc
    generalize H1 = H at hP hS ⊢
    subst hw
    refine gv_if_ne (tgt := 56) hx hb dX8_numeral_31 (by decide) (by omega) (fun c_31 => ?_) (fun c_31 => ?_)
    ·
      refine lv_iconst (v := nI 0) hx hb dX8_numeral_56 (by decide) ?_
      exact W.iret (v := (nI 0)) hx hb hr (fun t ht hW => ⟨⟨_, (), rfl, rfl, gB_end ht hW hP hK hD⟩, hS.F ht⟩) hS.2.2 dX8_numeral_57
    ·
      exact absurd c_31 (by decide)

set_option maxHeartbeats 4000000 in
set_option maxRecDepth 100000 in
/-- numeral: b2 -/
theorem c_X8_numeral_b2 (l : Launch) (dC : Nat → ClassId) (dI : Nat → Nat → Nat) (cI : ClassId) (sz : Nat) (mo : Nat) (abuf : Nat) (akey : Nat) (atwk : Nat) (arow : Nat) (abox : Nat) (awrd : Nat) (ablk : Nat) (amov : Nat) (ahA : Nat) (ahB : Nat) (ahC : Nat) (anum : Nat) (amsg : Nat) (astr : Nat) (th : Nat) (by_ : Nat) (ks : Nat) (ts : Nat) (rx : Nat) (mn : Nat) (rd : Nat) (za : Nat) (zb : Nat) (n : Nat) (hn : n < rx) (hr2 : rx ≤ 65536) (hm : mn = 64) : Met l yX8_numeral wsX8_numeral ({ frames := 1, cells := 0, slots := 0, locals := 25 }) (gPc dC dI cI [.ref mo, .int (nI n)] [(mo, .inr (7, [.int (nI th), .int (nI by_), .ref abuf, .int (nI ks), .ref akey, .int (nI ts), .ref atwk, .int (nI rx), .int (nI mn), .ref arow, .ref abox, .ref awrd, .int (nI rd), .ref ablk, .ref amov, .int (nI za), .int (nI zb), .ref ahA, .ref ahB, .ref ahC, .ref anum, .ref amsg, .ref astr]))] sz) (va_Qi (fun (r : Int32) (_u : Unit) => r = (nI 0)) (fun _u t => gB dC dI cI (va_A [(mo, .inr (7, [.int (nI th), .int (nI by_), .ref abuf, .int (nI ks), .ref akey, .int (nI ts), .ref atwk, .int (nI rx), .int (nI mn), .ref arow, .ref abox, .ref awrd, .int (nI rd), .ref ablk, .ref amov, .int (nI za), .int (nI zb), .ref ahA, .ref ahB, .ref ahC, .ref anum, .ref amsg, .ref astr]))] sz) [(mo, .inr (7, [.int (nI 2), .int (nI by_), .ref abuf, .int (nI ks), .ref akey, .int (nI ts), .ref atwk, .int (nI rx), .int (nI mn), .ref arow, .ref abox, .ref awrd, .int (nI rd), .ref ablk, .ref amov, .int (nI za), .int (nI zb), .ref ahA, .ref ahB, .ref ahC, .ref anum, .ref amsg, .ref astr]))] t) (va_A [(mo, .inr (7, [.int (nI th), .int (nI by_), .ref abuf, .int (nI ks), .ref akey, .int (nI ts), .ref atwk, .int (nI rx), .int (nI mn), .ref arow, .ref abox, .ref awrd, .int (nI rd), .ref ablk, .ref amov, .int (nI za), .int (nI zb), .ref ahA, .ref ahB, .ref ahC, .ref anum, .ref amsg, .ref astr]))] sz)) 0 0 (va_A [(mo, .inr (7, [.int (nI th), .int (nI by_), .ref abuf, .int (nI ks), .ref akey, .int (nI ts), .ref atwk, .int (nI rx), .int (nI mn), .ref arow, .ref abox, .ref awrd, .int (nI rd), .ref ablk, .ref amov, .int (nI za), .int (nI zb), .ref ahA, .ref ahB, .ref ahC, .ref anum, .ref amsg, .ref astr]))] sz) := by
  refine Met.ofW (cc := cX8_numeral) (maxL := 2) (ret := (some .int)) (by decide) rfl ?_
  intro p e s m args below meth c s₁ B9 hml hv
  obtain ⟨rfl, hsz, ⟨hP, hK, hD0⟩⟩ := hv
  have hx := B9.exec
  have hb := B9.bytes
  have hr := B9.returns
  have hts := atoms_spec (ws := wsX8_numeral) B9.pre
  have hown : s.vm.findClass RX8 = some m.cls := findClass_of_methodNamed B9.named
  have hlocks := B9.notSynchronized
  subst hsz
  have hD := hD0.self (sz := s.heap.size)
  generalize hAe : va_A [(mo, .inr (7, [.int (nI th), .int (nI by_), .ref abuf, .int (nI ks), .ref akey, .int (nI ts), .ref atwk, .int (nI rx), .int (nI mn), .ref arow, .ref abox, .ref awrd, .int (nI rd), .ref ablk, .ref amov, .int (nI za), .int (nI zb), .ref ahA, .ref ahB, .ref ahC, .ref anum, .ref amsg, .ref astr]))] s.heap.size = A at hD ⊢
  have hA : ∀ q : Nat, s.heap.size ≤ q → A q := fun q h => by rw [← hAe]; exact Or.inr h
  have hS : va_S A s.heap s.heap [] := va_S.rf
  have hl := lv_entry ([.ref mo, .int (nI n)]) (n := 2) (Nat.le_of_ble_eq_true rfl)
  rw [lg_entry_eq]
  generalize (lg_sl ([.ref mo, .int (nI n)]) ++ List.replicate (2 - (lg_sl ([.ref mo, .int (nI n)])).length) Slot.unset).toArray = ls at hl ⊢
  have hl : lv_has ls 2 [(0, .ref mo), (1, .int (nI n))] := hl
  refine lv_aload_n hx hb dX8_numeral_0 rfl (lv_at hl 0 rfl) ?_
  refine lv_iconst (v := nI 0) hx hb dX8_numeral_1 (by decide) ?_
  refine gv_put (own := RX8) (D := (dC, dI)) (ci := 7) (C := RX8) (T := TX8) (N := 23) (ws' := [(mo, .inr (7, [.int (nI 0), .int (nI by_), .ref abuf, .int (nI ks), .ref akey, .int (nI ts), .ref atwk, .int (nI rx), .int (nI mn), .ref arow, .ref abox, .ref awrd, .int (nI rd), .ref ablk, .ref amov, .int (nI za), .int (nI zb), .ref ahA, .ref ahB, .ref ahC, .ref anum, .ref amsg, .ref astr]))]) hx hb hts (by decide +kernel) tyX8 tyX8_ok nmX8 hown hK hP hD hS 0 rfl rfl 0 (by decide) (hts (.fieldLink RX8 63 "NumeralCipherModel" "thrown" "I") (by decide +kernel)) rfl rfl (by decide +kernel) (Nat.le_of_ble_eq_true rfl) rfl dX8_numeral_2 (fun H locs hP hD hS => ?_)
  refine lv_aload_n hx hb dX8_numeral_5 rfl (lv_at hl 0 rfl) ?_
  refine lv_iload_n hx hb dX8_numeral_6 rfl (lv_at hl 1 rfl) ?_
  refine lv_i2l (v := lN n) hx hb dX8_numeral_7 (nI_l (by omega)) ?_
  refine lv_lconst (v := lN 0) hx hb dX8_numeral_8 (by decide) ?_
  refine lv_aload_n hx hb dX8_numeral_9 rfl (lv_at hl 0 rfl) ?_
  refine gv_get (own := RX8) (D := (dC, dI)) (ci := 7) (C := RX8) (T := TX8) (N := 23) (v := .int (nI rx)) hx hb hts (by decide +kernel) hown hK hP 0 rfl rfl 7 (by decide) (hts (.fieldLink RX8 23 "NumeralCipherModel" "radix" "I") (by decide +kernel)) rfl rfl dX8_numeral_10 ?_
  refine lv_iconst (v := nI 1) hx hb dX8_numeral_13 (by decide) ?_
  refine gv_isub (r := rx - 1) hx hb dX8_numeral_14 (by omega) ?_
  refine lv_i2l (v := lN (rx - 1)) hx hb dX8_numeral_15 (nI_l (by omega)) ?_
  refine gv_callR (W.runS (As := [.long (lN n), .long (lN 0), .long (lN (rx - 1))]) (rest := [.ref mo]) ⟨hx, hb, hml, hown, hts⟩ (c_X8_in_1 l (lN n) (lN 0) (lN (rx - 1)) ((in_nat (v := n) (a := 0) (b := rx - 1) (by omega) (by omega) (by omega)).1) ((in_nat (v := n) (a := 0) (b := rx - 1) (by omega) (by omega) (by omega)).2)) (va_cwS 3 hts gX8_numeral_X8_in rfl rfl rfl (by decide +kernel) ⟨Nat.le_of_ble_eq_true rfl, Nat.le_of_ble_eq_true rfl⟩) ⟨fun a U g mk q => q, fun U hU hW => ⟨rfl, trivial⟩⟩ rfl rfl hl.1 rfl (lv_room (Nat.le_of_ble_eq_true rfl)) dX8_numeral_16 ⟨Nat.zero_le _, Nat.zero_le _⟩) ?_
  refine gv_if_ne (tgt := 26) hx hb dX8_numeral_19 (by decide) (by omega) (fun c_19 => ?_) (fun c_19 => ?_)
  ·
    refine lv_iconst (v := nI 0) hx hb dX8_numeral_26 (by decide) ?_
    refine lv_iconst (v := nI 1) hx hb dX8_numeral_27 (by decide) ?_
    have hPc := hP.sub (ws' := [(mo, .inr (7, [.int (nI 0), .int (nI by_), .ref abuf, .int (nI ks), .ref akey, .int (nI ts), .ref atwk, .int (nI rx), .int (nI mn), .ref arow, .ref abox, .ref awrd, .int (nI rd), .ref ablk, .ref amov, .int (nI za), .int (nI zb), .ref ahA, .ref ahB, .ref ahC, .ref anum, .ref amsg, .ref astr]))]) [0] rfl
    have hDc := hD.sub (ws' := [(mo, .inr (7, [.int (nI 0), .int (nI by_), .ref abuf, .int (nI ks), .ref akey, .int (nI ts), .ref atwk, .int (nI rx), .int (nI mn), .ref arow, .ref abox, .ref awrd, .int (nI rd), .ref ablk, .ref amov, .int (nI za), .int (nI zb), .ref ahA, .ref ahB, .ref ahC, .ref anum, .ref amsg, .ref astr]))]) [0] (by decide) rfl
    refine gv_callR (W.runV (As := [.int (nI 0), .int (nI 1)]) (rest := []) ⟨hx, hb, hml, hown, hts⟩ (c_X8_refuses_0 l dC dI cI H.size mo abuf akey atwk arow abox awrd ablk amov ahA ahB ahC anum amsg astr 0 by_ ks ts rx mn rd za zb 1 ) (cwV 2 hts gX8_numeral_X8_refuses rfl rfl rfl (by decide +kernel) ⟨Nat.le_of_ble_eq_true rfl, Nat.le_of_ble_eq_true rfl⟩) ⟨gPc_blind, va_recv hK hPc (ci := 7) (q0 := 0) rfl rfl, gPc_pre hPc hK hDc⟩ rfl rfl hl.1 rfl (lv_room (Nat.le_of_ble_eq_true rfl)) dX8_numeral_28 ⟨Nat.zero_le _, Nat.zero_le _⟩) ?_
    clear hPc hDc
    refine gv_if_ne (tgt := 56) hx hb dX8_numeral_31 (by decide) (by omega) (fun c_31 => ?_) (fun c_31 => ?_)
    ·
      exact absurd c_31 (by decide)
    ·
      refine lv_aload_n hx hb dX8_numeral_34 rfl (lv_at hl 0 rfl) ?_
      refine lv_aload_n hx hb dX8_numeral_35 rfl (lv_at hl 0 rfl) ?_
      refine gv_get (own := RX8) (D := (dC, dI)) (ci := 7) (C := RX8) (T := TX8) (N := 23) (v := .int (nI mn)) hx hb hts (by decide +kernel) hown hK hP 0 rfl rfl 8 (by decide) (hts (.fieldLink RX8 89 "NumeralCipherModel" "many" "I") (by decide +kernel)) rfl rfl dX8_numeral_36 ?_
      refine lv_bipush (v := nI 64) hx hb dX8_numeral_39 (by decide) ?_
      refine gv_icmp_ne (tgt := 48) hx hb dX8_numeral_41 (by decide) (by omega) (by omega) (fun c_41 => ?_) (fun c_41 => ?_)
      ·
        exact absurd c_41 (by omega)
      ·
        refine lv_iconst (v := nI 1) hx hb dX8_numeral_44 (by decide) ?_
        refine lv_goto (tgt := 49) hx hb dX8_numeral_45 (by decide) ?_
        refine lv_iconst (v := nI 2) hx hb dX8_numeral_49 (by decide) ?_
        have hPc := hP.sub (ws' := [(mo, .inr (7, [.int (nI 0), .int (nI by_), .ref abuf, .int (nI ks), .ref akey, .int (nI ts), .ref atwk, .int (nI rx), .int (nI mn), .ref arow, .ref abox, .ref awrd, .int (nI rd), .ref ablk, .ref amov, .int (nI za), .int (nI zb), .ref ahA, .ref ahB, .ref ahC, .ref anum, .ref amsg, .ref astr]))]) [0] rfl
        have hDc := hD.sub (ws' := [(mo, .inr (7, [.int (nI 0), .int (nI by_), .ref abuf, .int (nI ks), .ref akey, .int (nI ts), .ref atwk, .int (nI rx), .int (nI mn), .ref arow, .ref abox, .ref awrd, .int (nI rd), .ref ablk, .ref amov, .int (nI za), .int (nI zb), .ref ahA, .ref ahB, .ref ahC, .ref anum, .ref amsg, .ref astr]))]) [0] (by decide) rfl
        have hFc := va_free (wc := [(mo, .inr (7, [.int (nI 0), .int (nI by_), .ref abuf, .int (nI ks), .ref akey, .int (nI ts), .ref atwk, .int (nI rx), .int (nI mn), .ref arow, .ref abox, .ref awrd, .int (nI rd), .ref ablk, .ref amov, .int (nI za), .int (nI zb), .ref ahA, .ref ahB, .ref ahC, .ref anum, .ref amsg, .ref astr]))]) hD hS hA [0] rfl
        refine va_calli (va_runV (As := [.int (nI 1), .int (nI 2)]) (rest := []) ⟨hx, hb, hml, hown, hts⟩ (c_X8_refuses_1 l dC dI cI H.size mo abuf akey atwk arow abox awrd ablk amov ahA ahB ahC anum amsg astr 0 by_ ks ts rx mn rd za zb 2 (by omega) (by omega)) (cwV 2 hts gX8_numeral_X8_refuses rfl rfl rfl (by decide +kernel) ⟨Nat.le_of_ble_eq_true rfl, Nat.le_of_ble_eq_true rfl⟩) ⟨gPc_blind, va_recv hK hPc (ci := 7) (q0 := 0) rfl rfl, gPc_pre hPc hK hDc⟩ rfl rfl hl.1 rfl (lv_room (Nat.le_of_ble_eq_true rfl)) dX8_numeral_50 ⟨Nat.zero_le _, Nat.zero_le _⟩) hS (fun q _ h => hFc q h) hFc (fun r9 u8 t8 H1 locs ht hvm hw hB hz1 hk1 hS => ?_)
        try dsimp only at hw hB
        obtain ⟨hP, hD⟩ := gB_join (wr := []) (w2 := [(mo, .inr (7, [.int (nI 2), .int (nI by_), .ref abuf, .int (nI ks), .ref akey, .int (nI ts), .ref atwk, .int (nI rx), .int (nI mn), .ref arow, .ref abox, .ref awrd, .int (nI rd), .ref ablk, .ref amov, .int (nI za), .int (nI zb), .ref ahA, .ref ahB, .ref ahC, .ref anum, .ref amsg, .ref astr]))]) hP hD [0] [] rfl rfl (by decide) (by decide) hk1 hFc ht hB rfl
        clear hk1 hz1 ht hB hvm hPc hDc hFc
        generalize H1 = H at hP hS ⊢
        subst hw
        refine gv_if_eq (tgt := 58) hx hb dX8_numeral_53 (by decide) (by omega) (fun c_53 => ?_) (fun c_53 => ?_)
        ·
          exact absurd c_53 (by decide)
        ·
          refine lv_iconst (v := nI 0) hx hb dX8_numeral_56 (by decide) ?_
          exact W.iret (v := (nI 0)) hx hb hr (fun t ht hW => ⟨⟨_, (), rfl, rfl, gB_end ht hW hP hK hD⟩, hS.F ht⟩) hS.2.2 dX8_numeral_57
  ·
    exact absurd c_19 (by decide)

set_option maxHeartbeats 4000000 in
set_option maxRecDepth 100000 in
/-- cut: ok -/
theorem c_X8_cut_ok (l : Launch) (dC : Nat → ClassId) (dI : Nat → Nat → Nat) (cI : ClassId) (sz : Nat) (mo : Nat) (abuf : Nat) (akey : Nat) (atwk : Nat) (arow : Nat) (abox : Nat) (awrd : Nat) (ablk : Nat) (amov : Nat) (ahA : Nat) (ahB : Nat) (ahC : Nat) (anum : Nat) (amsg : Nat) (astr : Nat) (th : Nat) (by_ : Nat) (ks : Nat) (ts : Nat) (rx : Nat) (mn : Nat) (rd : Nat) (za : Nat) (zb : Nat) (n : Nat) (hn : n ≤ mn) (hm : mn ≤ 64) : Met l yX8_cut wsX8_cut ({ frames := 1, cells := 0, slots := 0, locals := 25 }) (gPc dC dI cI [.ref mo, .int (nI n)] [(mo, .inr (7, [.int (nI th), .int (nI by_), .ref abuf, .int (nI ks), .ref akey, .int (nI ts), .ref atwk, .int (nI rx), .int (nI mn), .ref arow, .ref abox, .ref awrd, .int (nI rd), .ref ablk, .ref amov, .int (nI za), .int (nI zb), .ref ahA, .ref ahB, .ref ahC, .ref anum, .ref amsg, .ref astr]))] sz) (va_Qv (fun _u : Unit => True) (fun _u t => gB dC dI cI (va_A [(mo, .inr (7, [.int (nI th), .int (nI by_), .ref abuf, .int (nI ks), .ref akey, .int (nI ts), .ref atwk, .int (nI rx), .int (nI mn), .ref arow, .ref abox, .ref awrd, .int (nI rd), .ref ablk, .ref amov, .int (nI za), .int (nI zb), .ref ahA, .ref ahB, .ref ahC, .ref anum, .ref amsg, .ref astr]))] sz) [(mo, .inr (7, [.int (nI 0), .int (nI by_), .ref abuf, .int (nI ks), .ref akey, .int (nI ts), .ref atwk, .int (nI rx), .int (nI n), .ref arow, .ref abox, .ref awrd, .int (nI rd), .ref ablk, .ref amov, .int (nI za), .int (nI zb), .ref ahA, .ref ahB, .ref ahC, .ref anum, .ref amsg, .ref astr]))] t) (va_A [(mo, .inr (7, [.int (nI th), .int (nI by_), .ref abuf, .int (nI ks), .ref akey, .int (nI ts), .ref atwk, .int (nI rx), .int (nI mn), .ref arow, .ref abox, .ref awrd, .int (nI rd), .ref ablk, .ref amov, .int (nI za), .int (nI zb), .ref ahA, .ref ahB, .ref ahC, .ref anum, .ref amsg, .ref astr]))] sz)) 0 0 (va_A [(mo, .inr (7, [.int (nI th), .int (nI by_), .ref abuf, .int (nI ks), .ref akey, .int (nI ts), .ref atwk, .int (nI rx), .int (nI mn), .ref arow, .ref abox, .ref awrd, .int (nI rd), .ref ablk, .ref amov, .int (nI za), .int (nI zb), .ref ahA, .ref ahB, .ref ahC, .ref anum, .ref amsg, .ref astr]))] sz) := by
  refine Met.ofW (cc := cX8_cut) (maxL := 2) (ret := none) (by decide) rfl ?_
  intro p e s m args below meth c s₁ B9 hml hv
  obtain ⟨rfl, hsz, ⟨hP, hK, hD0⟩⟩ := hv
  have hx := B9.exec
  have hb := B9.bytes
  have hr := B9.returns
  have hts := atoms_spec (ws := wsX8_cut) B9.pre
  have hown : s.vm.findClass RX8 = some m.cls := findClass_of_methodNamed B9.named
  have hlocks := B9.notSynchronized
  subst hsz
  have hD := hD0.self (sz := s.heap.size)
  generalize hAe : va_A [(mo, .inr (7, [.int (nI th), .int (nI by_), .ref abuf, .int (nI ks), .ref akey, .int (nI ts), .ref atwk, .int (nI rx), .int (nI mn), .ref arow, .ref abox, .ref awrd, .int (nI rd), .ref ablk, .ref amov, .int (nI za), .int (nI zb), .ref ahA, .ref ahB, .ref ahC, .ref anum, .ref amsg, .ref astr]))] s.heap.size = A at hD ⊢
  have hA : ∀ q : Nat, s.heap.size ≤ q → A q := fun q h => by rw [← hAe]; exact Or.inr h
  have hS : va_S A s.heap s.heap [] := va_S.rf
  have hl := lv_entry ([.ref mo, .int (nI n)]) (n := 2) (Nat.le_of_ble_eq_true rfl)
  rw [lg_entry_eq]
  generalize (lg_sl ([.ref mo, .int (nI n)]) ++ List.replicate (2 - (lg_sl ([.ref mo, .int (nI n)])).length) Slot.unset).toArray = ls at hl ⊢
  have hl : lv_has ls 2 [(0, .ref mo), (1, .int (nI n))] := hl
  refine lv_aload_n hx hb dX8_cut_0 rfl (lv_at hl 0 rfl) ?_
  refine lv_iconst (v := nI 0) hx hb dX8_cut_1 (by decide) ?_
  refine gv_put (own := RX8) (D := (dC, dI)) (ci := 7) (C := RX8) (T := TX8) (N := 23) (ws' := [(mo, .inr (7, [.int (nI 0), .int (nI by_), .ref abuf, .int (nI ks), .ref akey, .int (nI ts), .ref atwk, .int (nI rx), .int (nI mn), .ref arow, .ref abox, .ref awrd, .int (nI rd), .ref ablk, .ref amov, .int (nI za), .int (nI zb), .ref ahA, .ref ahB, .ref ahC, .ref anum, .ref amsg, .ref astr]))]) hx hb hts (by decide +kernel) tyX8 tyX8_ok nmX8 hown hK hP hD hS 0 rfl rfl 0 (by decide) (hts (.fieldLink RX8 63 "NumeralCipherModel" "thrown" "I") (by decide +kernel)) rfl rfl (by decide +kernel) (Nat.le_of_ble_eq_true rfl) rfl dX8_cut_2 (fun H locs hP hD hS => ?_)
  refine lv_aload_n hx hb dX8_cut_5 rfl (lv_at hl 0 rfl) ?_
  refine lv_iload_n hx hb dX8_cut_6 rfl (lv_at hl 1 rfl) ?_
  refine lv_i2l (v := lN n) hx hb dX8_cut_7 (nI_l (by omega)) ?_
  refine lv_lconst (v := lN 0) hx hb dX8_cut_8 (by decide) ?_
  refine lv_aload_n hx hb dX8_cut_9 rfl (lv_at hl 0 rfl) ?_
  refine gv_get (own := RX8) (D := (dC, dI)) (ci := 7) (C := RX8) (T := TX8) (N := 23) (v := .int (nI mn)) hx hb hts (by decide +kernel) hown hK hP 0 rfl rfl 8 (by decide) (hts (.fieldLink RX8 89 "NumeralCipherModel" "many" "I") (by decide +kernel)) rfl rfl dX8_cut_10 ?_
  refine lv_i2l (v := lN mn) hx hb dX8_cut_13 (nI_l (by omega)) ?_
  refine gv_callR (W.runS (As := [.long (lN n), .long (lN 0), .long (lN mn)]) (rest := [.ref mo]) ⟨hx, hb, hml, hown, hts⟩ (c_X8_in_1 l (lN n) (lN 0) (lN mn) ((in_nat (v := n) (a := 0) (b := mn) (by omega) (by omega) (by omega)).1) ((in_nat (v := n) (a := 0) (b := mn) (by omega) (by omega) (by omega)).2)) (va_cwS 3 hts gX8_cut_X8_in rfl rfl rfl (by decide +kernel) ⟨Nat.le_of_ble_eq_true rfl, Nat.le_of_ble_eq_true rfl⟩) ⟨fun a U g mk q => q, fun U hU hW => ⟨rfl, trivial⟩⟩ rfl rfl hl.1 rfl (lv_room (Nat.le_of_ble_eq_true rfl)) dX8_cut_14 ⟨Nat.zero_le _, Nat.zero_le _⟩) ?_
  refine gv_if_ne (tgt := 24) hx hb dX8_cut_17 (by decide) (by omega) (fun c_17 => ?_) (fun c_17 => ?_)
  ·
    refine lv_iconst (v := nI 0) hx hb dX8_cut_24 (by decide) ?_
    refine lv_iconst (v := nI 1) hx hb dX8_cut_25 (by decide) ?_
    have hPc := hP.sub (ws' := [(mo, .inr (7, [.int (nI 0), .int (nI by_), .ref abuf, .int (nI ks), .ref akey, .int (nI ts), .ref atwk, .int (nI rx), .int (nI mn), .ref arow, .ref abox, .ref awrd, .int (nI rd), .ref ablk, .ref amov, .int (nI za), .int (nI zb), .ref ahA, .ref ahB, .ref ahC, .ref anum, .ref amsg, .ref astr]))]) [0] rfl
    have hDc := hD.sub (ws' := [(mo, .inr (7, [.int (nI 0), .int (nI by_), .ref abuf, .int (nI ks), .ref akey, .int (nI ts), .ref atwk, .int (nI rx), .int (nI mn), .ref arow, .ref abox, .ref awrd, .int (nI rd), .ref ablk, .ref amov, .int (nI za), .int (nI zb), .ref ahA, .ref ahB, .ref ahC, .ref anum, .ref amsg, .ref astr]))]) [0] (by decide) rfl
    refine gv_callR (W.runV (As := [.int (nI 0), .int (nI 1)]) (rest := []) ⟨hx, hb, hml, hown, hts⟩ (c_X8_refuses_0 l dC dI cI H.size mo abuf akey atwk arow abox awrd ablk amov ahA ahB ahC anum amsg astr 0 by_ ks ts rx mn rd za zb 1 ) (cwV 2 hts gX8_cut_X8_refuses rfl rfl rfl (by decide +kernel) ⟨Nat.le_of_ble_eq_true rfl, Nat.le_of_ble_eq_true rfl⟩) ⟨gPc_blind, va_recv hK hPc (ci := 7) (q0 := 0) rfl rfl, gPc_pre hPc hK hDc⟩ rfl rfl hl.1 rfl (lv_room (Nat.le_of_ble_eq_true rfl)) dX8_cut_26 ⟨Nat.zero_le _, Nat.zero_le _⟩) ?_
    clear hPc hDc
    refine gv_if_ne (tgt := 37) hx hb dX8_cut_29 (by decide) (by omega) (fun c_29 => ?_) (fun c_29 => ?_)
    ·
      exact absurd c_29 (by decide)
    ·
      refine lv_aload_n hx hb dX8_cut_32 rfl (lv_at hl 0 rfl) ?_
      refine lv_iload_n hx hb dX8_cut_33 rfl (lv_at hl 1 rfl) ?_
      refine gv_put (own := RX8) (D := (dC, dI)) (ci := 7) (C := RX8) (T := TX8) (N := 23) (ws' := [(mo, .inr (7, [.int (nI 0), .int (nI by_), .ref abuf, .int (nI ks), .ref akey, .int (nI ts), .ref atwk, .int (nI rx), .int (nI n), .ref arow, .ref abox, .ref awrd, .int (nI rd), .ref ablk, .ref amov, .int (nI za), .int (nI zb), .ref ahA, .ref ahB, .ref ahC, .ref anum, .ref amsg, .ref astr]))]) hx hb hts (by decide +kernel) tyX8 tyX8_ok nmX8 hown hK hP hD hS 0 rfl rfl 8 (by decide) (hts (.fieldLink RX8 89 "NumeralCipherModel" "many" "I") (by decide +kernel)) rfl rfl (by decide +kernel) (Nat.le_of_ble_eq_true rfl) rfl dX8_cut_34 (fun H locs hP hD hS => ?_)
      exact W.vret hx hb hr (fun t ht hW => ⟨⟨(), rfl, trivial, gB_end ht hW hP hK hD⟩, hS.F ht⟩) hS.2.2 dX8_cut_37
  ·
    exact absurd c_17 (by decide)

set_option maxHeartbeats 4000000 in
set_option maxRecDepth 100000 in
/-- cut: b1 -/
theorem c_X8_cut_b1 (l : Launch) (dC : Nat → ClassId) (dI : Nat → Nat → Nat) (cI : ClassId) (sz : Nat) (mo : Nat) (abuf : Nat) (akey : Nat) (atwk : Nat) (arow : Nat) (abox : Nat) (awrd : Nat) (ablk : Nat) (amov : Nat) (ahA : Nat) (ahB : Nat) (ahC : Nat) (anum : Nat) (amsg : Nat) (astr : Nat) (th : Nat) (by_ : Nat) (ks : Nat) (ts : Nat) (rx : Nat) (mn : Nat) (rd : Nat) (za : Nat) (zb : Nat) (x : Int32) (hm : mn ≤ 64) (hbad : x.toInt < 0 ∨ (mn : Int) < x.toInt) : Met l yX8_cut wsX8_cut ({ frames := 1, cells := 0, slots := 0, locals := 25 }) (gPc dC dI cI [.ref mo, .int x] [(mo, .inr (7, [.int (nI th), .int (nI by_), .ref abuf, .int (nI ks), .ref akey, .int (nI ts), .ref atwk, .int (nI rx), .int (nI mn), .ref arow, .ref abox, .ref awrd, .int (nI rd), .ref ablk, .ref amov, .int (nI za), .int (nI zb), .ref ahA, .ref ahB, .ref ahC, .ref anum, .ref amsg, .ref astr]))] sz) (va_Qv (fun _u : Unit => True) (fun _u t => gB dC dI cI (va_A [(mo, .inr (7, [.int (nI th), .int (nI by_), .ref abuf, .int (nI ks), .ref akey, .int (nI ts), .ref atwk, .int (nI rx), .int (nI mn), .ref arow, .ref abox, .ref awrd, .int (nI rd), .ref ablk, .ref amov, .int (nI za), .int (nI zb), .ref ahA, .ref ahB, .ref ahC, .ref anum, .ref amsg, .ref astr]))] sz) [(mo, .inr (7, [.int (nI 1), .int (nI by_), .ref abuf, .int (nI ks), .ref akey, .int (nI ts), .ref atwk, .int (nI rx), .int (nI mn), .ref arow, .ref abox, .ref awrd, .int (nI rd), .ref ablk, .ref amov, .int (nI za), .int (nI zb), .ref ahA, .ref ahB, .ref ahC, .ref anum, .ref amsg, .ref astr]))] t) (va_A [(mo, .inr (7, [.int (nI th), .int (nI by_), .ref abuf, .int (nI ks), .ref akey, .int (nI ts), .ref atwk, .int (nI rx), .int (nI mn), .ref arow, .ref abox, .ref awrd, .int (nI rd), .ref ablk, .ref amov, .int (nI za), .int (nI zb), .ref ahA, .ref ahB, .ref ahC, .ref anum, .ref amsg, .ref astr]))] sz)) 0 0 (va_A [(mo, .inr (7, [.int (nI th), .int (nI by_), .ref abuf, .int (nI ks), .ref akey, .int (nI ts), .ref atwk, .int (nI rx), .int (nI mn), .ref arow, .ref abox, .ref awrd, .int (nI rd), .ref ablk, .ref amov, .int (nI za), .int (nI zb), .ref ahA, .ref ahB, .ref ahC, .ref anum, .ref amsg, .ref astr]))] sz) := by
  refine Met.ofW (cc := cX8_cut) (maxL := 2) (ret := none) (by decide) rfl ?_
  intro p e s m args below meth c s₁ B9 hml hv
  obtain ⟨rfl, hsz, ⟨hP, hK, hD0⟩⟩ := hv
  have hx := B9.exec
  have hb := B9.bytes
  have hr := B9.returns
  have hts := atoms_spec (ws := wsX8_cut) B9.pre
  have hown : s.vm.findClass RX8 = some m.cls := findClass_of_methodNamed B9.named
  have hlocks := B9.notSynchronized
  subst hsz
  have hD := hD0.self (sz := s.heap.size)
  generalize hAe : va_A [(mo, .inr (7, [.int (nI th), .int (nI by_), .ref abuf, .int (nI ks), .ref akey, .int (nI ts), .ref atwk, .int (nI rx), .int (nI mn), .ref arow, .ref abox, .ref awrd, .int (nI rd), .ref ablk, .ref amov, .int (nI za), .int (nI zb), .ref ahA, .ref ahB, .ref ahC, .ref anum, .ref amsg, .ref astr]))] s.heap.size = A at hD ⊢
  have hA : ∀ q : Nat, s.heap.size ≤ q → A q := fun q h => by rw [← hAe]; exact Or.inr h
  have hS : va_S A s.heap s.heap [] := va_S.rf
  have hl := lv_entry ([.ref mo, .int x]) (n := 2) (Nat.le_of_ble_eq_true rfl)
  rw [lg_entry_eq]
  generalize (lg_sl ([.ref mo, .int x]) ++ List.replicate (2 - (lg_sl ([.ref mo, .int x])).length) Slot.unset).toArray = ls at hl ⊢
  have hl : lv_has ls 2 [(0, .ref mo), (1, .int x)] := hl
  refine lv_aload_n hx hb dX8_cut_0 rfl (lv_at hl 0 rfl) ?_
  refine lv_iconst (v := nI 0) hx hb dX8_cut_1 (by decide) ?_
  refine gv_put (own := RX8) (D := (dC, dI)) (ci := 7) (C := RX8) (T := TX8) (N := 23) (ws' := [(mo, .inr (7, [.int (nI 0), .int (nI by_), .ref abuf, .int (nI ks), .ref akey, .int (nI ts), .ref atwk, .int (nI rx), .int (nI mn), .ref arow, .ref abox, .ref awrd, .int (nI rd), .ref ablk, .ref amov, .int (nI za), .int (nI zb), .ref ahA, .ref ahB, .ref ahC, .ref anum, .ref amsg, .ref astr]))]) hx hb hts (by decide +kernel) tyX8 tyX8_ok nmX8 hown hK hP hD hS 0 rfl rfl 0 (by decide) (hts (.fieldLink RX8 63 "NumeralCipherModel" "thrown" "I") (by decide +kernel)) rfl rfl (by decide +kernel) (Nat.le_of_ble_eq_true rfl) rfl dX8_cut_2 (fun H locs hP hD hS => ?_)
  refine lv_aload_n hx hb dX8_cut_5 rfl (lv_at hl 0 rfl) ?_
  refine lv_iload_n hx hb dX8_cut_6 rfl (lv_at hl 1 rfl) ?_
  refine lv_i2l (v := x.toInt64) hx hb dX8_cut_7 rfl ?_
  refine lv_lconst (v := lN 0) hx hb dX8_cut_8 (by decide) ?_
  refine lv_aload_n hx hb dX8_cut_9 rfl (lv_at hl 0 rfl) ?_
  refine gv_get (own := RX8) (D := (dC, dI)) (ci := 7) (C := RX8) (T := TX8) (N := 23) (v := .int (nI mn)) hx hb hts (by decide +kernel) hown hK hP 0 rfl rfl 8 (by decide) (hts (.fieldLink RX8 89 "NumeralCipherModel" "many" "I") (by decide +kernel)) rfl rfl dX8_cut_10 ?_
  refine lv_i2l (v := lN mn) hx hb dX8_cut_13 (nI_l (by omega)) ?_
  refine gv_callR (W.runS (As := [.long x.toInt64, .long (lN 0), .long (lN mn)]) (rest := [.ref mo]) ⟨hx, hb, hml, hown, hts⟩ (c_X8_in_0 l x.toInt64 (lN 0) (lN mn) (in_raw (pk_lT (by decide)) (pk_lT (by omega)) (by omega))) (va_cwS 3 hts gX8_cut_X8_in rfl rfl rfl (by decide +kernel) ⟨Nat.le_of_ble_eq_true rfl, Nat.le_of_ble_eq_true rfl⟩) ⟨fun a U g mk q => q, fun U hU hW => ⟨rfl, trivial⟩⟩ rfl rfl hl.1 rfl (lv_room (Nat.le_of_ble_eq_true rfl)) dX8_cut_14 ⟨Nat.zero_le _, Nat.zero_le _⟩) ?_
  refine gv_if_ne (tgt := 24) hx hb dX8_cut_17 (by decide) (by omega) (fun c_17 => ?_) (fun c_17 => ?_)
  ·
    exact absurd c_17 (by decide)
  ·
    refine lv_iconst (v := nI 1) hx hb dX8_cut_20 (by decide) ?_
    refine lv_goto (tgt := 25) hx hb dX8_cut_21 (by decide) ?_
    refine lv_iconst (v := nI 1) hx hb dX8_cut_25 (by decide) ?_
    have hPc := hP.sub (ws' := [(mo, .inr (7, [.int (nI 0), .int (nI by_), .ref abuf, .int (nI ks), .ref akey, .int (nI ts), .ref atwk, .int (nI rx), .int (nI mn), .ref arow, .ref abox, .ref awrd, .int (nI rd), .ref ablk, .ref amov, .int (nI za), .int (nI zb), .ref ahA, .ref ahB, .ref ahC, .ref anum, .ref amsg, .ref astr]))]) [0] rfl
    have hDc := hD.sub (ws' := [(mo, .inr (7, [.int (nI 0), .int (nI by_), .ref abuf, .int (nI ks), .ref akey, .int (nI ts), .ref atwk, .int (nI rx), .int (nI mn), .ref arow, .ref abox, .ref awrd, .int (nI rd), .ref ablk, .ref amov, .int (nI za), .int (nI zb), .ref ahA, .ref ahB, .ref ahC, .ref anum, .ref amsg, .ref astr]))]) [0] (by decide) rfl
    have hFc := va_free (wc := [(mo, .inr (7, [.int (nI 0), .int (nI by_), .ref abuf, .int (nI ks), .ref akey, .int (nI ts), .ref atwk, .int (nI rx), .int (nI mn), .ref arow, .ref abox, .ref awrd, .int (nI rd), .ref ablk, .ref amov, .int (nI za), .int (nI zb), .ref ahA, .ref ahB, .ref ahC, .ref anum, .ref amsg, .ref astr]))]) hD hS hA [0] rfl
    refine va_calli (va_runV (As := [.int (nI 1), .int (nI 1)]) (rest := []) ⟨hx, hb, hml, hown, hts⟩ (c_X8_refuses_1 l dC dI cI H.size mo abuf akey atwk arow abox awrd ablk amov ahA ahB ahC anum amsg astr 0 by_ ks ts rx mn rd za zb 1 (by omega) (by omega)) (cwV 2 hts gX8_cut_X8_refuses rfl rfl rfl (by decide +kernel) ⟨Nat.le_of_ble_eq_true rfl, Nat.le_of_ble_eq_true rfl⟩) ⟨gPc_blind, va_recv hK hPc (ci := 7) (q0 := 0) rfl rfl, gPc_pre hPc hK hDc⟩ rfl rfl hl.1 rfl (lv_room (Nat.le_of_ble_eq_true rfl)) dX8_cut_26 ⟨Nat.zero_le _, Nat.zero_le _⟩) hS (fun q _ h => hFc q h) hFc (fun r9 u8 t8 H1 locs ht hvm hw hB hz1 hk1 hS => ?_)
    try dsimp only at hw hB
    obtain ⟨hP, hD⟩ := gB_join (wr := []) (w2 := [(mo, .inr (7, [.int (nI 1), .int (nI by_), .ref abuf, .int (nI ks), .ref akey, .int (nI ts), .ref atwk, .int (nI rx), .int (nI mn), .ref arow, .ref abox, .ref awrd, .int (nI rd), .ref ablk, .ref amov, .int (nI za), .int (nI zb), .ref ahA, .ref ahB, .ref ahC, .ref anum, .ref amsg, .ref astr]))]) hP hD [0] [] rfl rfl (by decide) (by decide) hk1 hFc ht hB rfl
    clear hk1 hz1 ht hB hvm hPc hDc hFc
    generalize H1 = H at hP hS ⊢
    subst hw
    refine gv_if_ne (tgt := 37) hx hb dX8_cut_29 (by decide) (by omega) (fun c_29 => ?_) (fun c_29 => ?_)
    ·
      exact W.vret hx hb hr (fun t ht hW => ⟨⟨(), rfl, trivial, gB_end ht hW hP hK hD⟩, hS.F ht⟩) hS.2.2 dX8_cut_37
    ·
      exact absurd c_29 (by decide)

set_option maxHeartbeats 4000000 in
set_option maxRecDepth 100000 in
/-- set: ok -/
theorem c_X8_set_ok (l : Launch) (dC : Nat → ClassId) (dI : Nat → Nat → Nat) (cI : ClassId) (sz : Nat) (mo : Nat) (abuf : Nat) (akey : Nat) (atwk : Nat) (arow : Nat) (abox : Nat) (awrd : Nat) (ablk : Nat) (amov : Nat) (ahA : Nat) (ahB : Nat) (ahC : Nat) (anum : Nat) (amsg : Nat) (astr : Nat) (th : Nat) (by_ : Nat) (ks : Nat) (ts : Nat) (rx : Nat) (mn : Nat) (rd : Nat) (za : Nat) (zb : Nat) (i : Nat) (n : Nat) (ro : Nat → Nat) (hi : i < mn) (hm : mn ≤ 64) (hn : n < rx) (hr2 : rx ≤ 65536) : Met l yX8_set wsX8_set ({ frames := 1, cells := 0, slots := 0, locals := 25 }) (gPc dC dI cI [.ref mo, .int (nI i), .int (nI n)] [(mo, .inr (7, [.int (nI th), .int (nI by_), .ref abuf, .int (nI ks), .ref akey, .int (nI ts), .ref atwk, .int (nI rx), .int (nI mn), .ref arow, .ref abox, .ref awrd, .int (nI rd), .ref ablk, .ref amov, .int (nI za), .int (nI zb), .ref ahA, .ref ahB, .ref ahC, .ref anum, .ref amsg, .ref astr])), (arow, .inl (cI, 64, .inl (gA ro)))] sz) (va_Qi (fun (r : Int32) (_u : Unit) => r = (nI (ro i))) (fun _u t => gB dC dI cI (va_A [(mo, .inr (7, [.int (nI th), .int (nI by_), .ref abuf, .int (nI ks), .ref akey, .int (nI ts), .ref atwk, .int (nI rx), .int (nI mn), .ref arow, .ref abox, .ref awrd, .int (nI rd), .ref ablk, .ref amov, .int (nI za), .int (nI zb), .ref ahA, .ref ahB, .ref ahC, .ref anum, .ref amsg, .ref astr])), (arow, .inl (cI, 64, .inl (gA ro)))] sz) [(mo, .inr (7, [.int (nI 0), .int (nI by_), .ref abuf, .int (nI ks), .ref akey, .int (nI ts), .ref atwk, .int (nI rx), .int (nI mn), .ref arow, .ref abox, .ref awrd, .int (nI rd), .ref ablk, .ref amov, .int (nI za), .int (nI zb), .ref ahA, .ref ahB, .ref ahC, .ref anum, .ref amsg, .ref astr])), (arow, .inl (cI, 64, .inl (gA (gU ro i n))))] t) (va_A [(mo, .inr (7, [.int (nI th), .int (nI by_), .ref abuf, .int (nI ks), .ref akey, .int (nI ts), .ref atwk, .int (nI rx), .int (nI mn), .ref arow, .ref abox, .ref awrd, .int (nI rd), .ref ablk, .ref amov, .int (nI za), .int (nI zb), .ref ahA, .ref ahB, .ref ahC, .ref anum, .ref amsg, .ref astr])), (arow, .inl (cI, 64, .inl (gA ro)))] sz)) 0 0 (va_A [(mo, .inr (7, [.int (nI th), .int (nI by_), .ref abuf, .int (nI ks), .ref akey, .int (nI ts), .ref atwk, .int (nI rx), .int (nI mn), .ref arow, .ref abox, .ref awrd, .int (nI rd), .ref ablk, .ref amov, .int (nI za), .int (nI zb), .ref ahA, .ref ahB, .ref ahC, .ref anum, .ref amsg, .ref astr])), (arow, .inl (cI, 64, .inl (gA ro)))] sz) := by
  refine Met.ofW (cc := cX8_set) (maxL := 4) (ret := (some .int)) (by decide) rfl ?_
  intro p e s m args below meth c s₁ B9 hml hv
  obtain ⟨rfl, hsz, ⟨hP, hK, hD0⟩⟩ := hv
  have hx := B9.exec
  have hb := B9.bytes
  have hr := B9.returns
  have hts := atoms_spec (ws := wsX8_set) B9.pre
  have hown : s.vm.findClass RX8 = some m.cls := findClass_of_methodNamed B9.named
  have hlocks := B9.notSynchronized
  subst hsz
  have hD := hD0.self (sz := s.heap.size)
  generalize hAe : va_A [(mo, .inr (7, [.int (nI th), .int (nI by_), .ref abuf, .int (nI ks), .ref akey, .int (nI ts), .ref atwk, .int (nI rx), .int (nI mn), .ref arow, .ref abox, .ref awrd, .int (nI rd), .ref ablk, .ref amov, .int (nI za), .int (nI zb), .ref ahA, .ref ahB, .ref ahC, .ref anum, .ref amsg, .ref astr])), (arow, .inl (cI, 64, .inl (gA ro)))] s.heap.size = A at hD ⊢
  have hA : ∀ q : Nat, s.heap.size ≤ q → A q := fun q h => by rw [← hAe]; exact Or.inr h
  have hS : va_S A s.heap s.heap [] := va_S.rf
  have hl := lv_entry ([.ref mo, .int (nI i), .int (nI n)]) (n := 4) (Nat.le_of_ble_eq_true rfl)
  rw [lg_entry_eq]
  generalize (lg_sl ([.ref mo, .int (nI i), .int (nI n)]) ++ List.replicate (4 - (lg_sl ([.ref mo, .int (nI i), .int (nI n)])).length) Slot.unset).toArray = ls at hl ⊢
  have hl : lv_has ls 4 [(0, .ref mo), (1, .int (nI i)), (2, .int (nI n))] := hl
  refine lv_aload_n hx hb dX8_set_0 rfl (lv_at hl 0 rfl) ?_
  refine lv_iconst (v := nI 0) hx hb dX8_set_1 (by decide) ?_
  refine gv_put (own := RX8) (D := (dC, dI)) (ci := 7) (C := RX8) (T := TX8) (N := 23) (ws' := [(mo, .inr (7, [.int (nI 0), .int (nI by_), .ref abuf, .int (nI ks), .ref akey, .int (nI ts), .ref atwk, .int (nI rx), .int (nI mn), .ref arow, .ref abox, .ref awrd, .int (nI rd), .ref ablk, .ref amov, .int (nI za), .int (nI zb), .ref ahA, .ref ahB, .ref ahC, .ref anum, .ref amsg, .ref astr])), (arow, .inl (cI, 64, .inl (gA ro)))]) hx hb hts (by decide +kernel) tyX8 tyX8_ok nmX8 hown hK hP hD hS 0 rfl rfl 0 (by decide) (hts (.fieldLink RX8 63 "NumeralCipherModel" "thrown" "I") (by decide +kernel)) rfl rfl (by decide +kernel) (Nat.le_of_ble_eq_true rfl) rfl dX8_set_2 (fun H locs hP hD hS => ?_)
  refine lv_aload_n hx hb dX8_set_5 rfl (lv_at hl 0 rfl) ?_
  refine lv_iload_n hx hb dX8_set_6 rfl (lv_at hl 1 rfl) ?_
  refine lv_i2l (v := lN i) hx hb dX8_set_7 (nI_l (by omega)) ?_
  refine lv_lconst (v := lN 0) hx hb dX8_set_8 (by decide) ?_
  refine lv_aload_n hx hb dX8_set_9 rfl (lv_at hl 0 rfl) ?_
  refine gv_get (own := RX8) (D := (dC, dI)) (ci := 7) (C := RX8) (T := TX8) (N := 23) (v := .int (nI mn)) hx hb hts (by decide +kernel) hown hK hP 0 rfl rfl 8 (by decide) (hts (.fieldLink RX8 89 "NumeralCipherModel" "many" "I") (by decide +kernel)) rfl rfl dX8_set_10 ?_
  refine lv_iconst (v := nI 1) hx hb dX8_set_13 (by decide) ?_
  refine gv_isub (r := mn - 1) hx hb dX8_set_14 (by omega) ?_
  refine lv_i2l (v := lN (mn - 1)) hx hb dX8_set_15 (nI_l (by omega)) ?_
  refine gv_callR (W.runS (As := [.long (lN i), .long (lN 0), .long (lN (mn - 1))]) (rest := [.ref mo]) ⟨hx, hb, hml, hown, hts⟩ (c_X8_in_1 l (lN i) (lN 0) (lN (mn - 1)) ((in_nat (v := i) (a := 0) (b := mn - 1) (by omega) (by omega) (by omega)).1) ((in_nat (v := i) (a := 0) (b := mn - 1) (by omega) (by omega) (by omega)).2)) (va_cwS 3 hts gX8_set_X8_in rfl rfl rfl (by decide +kernel) ⟨Nat.le_of_ble_eq_true rfl, Nat.le_of_ble_eq_true rfl⟩) ⟨fun a U g mk q => q, fun U hU hW => ⟨rfl, trivial⟩⟩ rfl rfl hl.1 rfl (lv_room (Nat.le_of_ble_eq_true rfl)) dX8_set_16 ⟨Nat.zero_le _, Nat.zero_le _⟩) ?_
  refine gv_if_ne (tgt := 26) hx hb dX8_set_19 (by decide) (by omega) (fun c_19 => ?_) (fun c_19 => ?_)
  ·
    refine lv_iconst (v := nI 0) hx hb dX8_set_26 (by decide) ?_
    refine lv_iconst (v := nI 1) hx hb dX8_set_27 (by decide) ?_
    have hPc := hP.sub (ws' := [(mo, .inr (7, [.int (nI 0), .int (nI by_), .ref abuf, .int (nI ks), .ref akey, .int (nI ts), .ref atwk, .int (nI rx), .int (nI mn), .ref arow, .ref abox, .ref awrd, .int (nI rd), .ref ablk, .ref amov, .int (nI za), .int (nI zb), .ref ahA, .ref ahB, .ref ahC, .ref anum, .ref amsg, .ref astr]))]) [0] rfl
    have hDc := hD.sub (ws' := [(mo, .inr (7, [.int (nI 0), .int (nI by_), .ref abuf, .int (nI ks), .ref akey, .int (nI ts), .ref atwk, .int (nI rx), .int (nI mn), .ref arow, .ref abox, .ref awrd, .int (nI rd), .ref ablk, .ref amov, .int (nI za), .int (nI zb), .ref ahA, .ref ahB, .ref ahC, .ref anum, .ref amsg, .ref astr]))]) [0] (by decide) rfl
    refine gv_callR (W.runV (As := [.int (nI 0), .int (nI 1)]) (rest := []) ⟨hx, hb, hml, hown, hts⟩ (c_X8_refuses_0 l dC dI cI H.size mo abuf akey atwk arow abox awrd ablk amov ahA ahB ahC anum amsg astr 0 by_ ks ts rx mn rd za zb 1 ) (cwV 2 hts gX8_set_X8_refuses rfl rfl rfl (by decide +kernel) ⟨Nat.le_of_ble_eq_true rfl, Nat.le_of_ble_eq_true rfl⟩) ⟨gPc_blind, va_recv hK hPc (ci := 7) (q0 := 0) rfl rfl, gPc_pre hPc hK hDc⟩ rfl rfl hl.1 rfl (lv_room (Nat.le_of_ble_eq_true rfl)) dX8_set_28 ⟨Nat.zero_le _, Nat.zero_le _⟩) ?_
    clear hPc hDc
    refine gv_if_ne (tgt := 63) hx hb dX8_set_31 (by decide) (by omega) (fun c_31 => ?_) (fun c_31 => ?_)
    ·
      exact absurd c_31 (by decide)
    ·
      refine lv_aload_n hx hb dX8_set_34 rfl (lv_at hl 0 rfl) ?_
      refine lv_iload_n hx hb dX8_set_35 rfl (lv_at hl 2 rfl) ?_
      refine lv_i2l (v := lN n) hx hb dX8_set_36 (nI_l (by omega)) ?_
      refine lv_lconst (v := lN 0) hx hb dX8_set_37 (by decide) ?_
      refine lv_aload_n hx hb dX8_set_38 rfl (lv_at hl 0 rfl) ?_
      refine gv_get (own := RX8) (D := (dC, dI)) (ci := 7) (C := RX8) (T := TX8) (N := 23) (v := .int (nI rx)) hx hb hts (by decide +kernel) hown hK hP 0 rfl rfl 7 (by decide) (hts (.fieldLink RX8 23 "NumeralCipherModel" "radix" "I") (by decide +kernel)) rfl rfl dX8_set_39 ?_
      refine lv_iconst (v := nI 1) hx hb dX8_set_42 (by decide) ?_
      refine gv_isub (r := rx - 1) hx hb dX8_set_43 (by omega) ?_
      refine lv_i2l (v := lN (rx - 1)) hx hb dX8_set_44 (nI_l (by omega)) ?_
      refine gv_callR (W.runS (As := [.long (lN n), .long (lN 0), .long (lN (rx - 1))]) (rest := [.ref mo]) ⟨hx, hb, hml, hown, hts⟩ (c_X8_in_1 l (lN n) (lN 0) (lN (rx - 1)) ((in_nat (v := n) (a := 0) (b := rx - 1) (by omega) (by omega) (by omega)).1) ((in_nat (v := n) (a := 0) (b := rx - 1) (by omega) (by omega) (by omega)).2)) (va_cwS 3 hts gX8_set_X8_in rfl rfl rfl (by decide +kernel) ⟨Nat.le_of_ble_eq_true rfl, Nat.le_of_ble_eq_true rfl⟩) ⟨fun a U g mk q => q, fun U hU hW => ⟨rfl, trivial⟩⟩ rfl rfl hl.1 rfl (lv_room (Nat.le_of_ble_eq_true rfl)) dX8_set_45 ⟨Nat.zero_le _, Nat.zero_le _⟩) ?_
      refine gv_if_ne (tgt := 55) hx hb dX8_set_48 (by decide) (by omega) (fun c_48 => ?_) (fun c_48 => ?_)
      ·
        refine lv_iconst (v := nI 0) hx hb dX8_set_55 (by decide) ?_
        refine lv_iconst (v := nI 2) hx hb dX8_set_56 (by decide) ?_
        have hPc := hP.sub (ws' := [(mo, .inr (7, [.int (nI 0), .int (nI by_), .ref abuf, .int (nI ks), .ref akey, .int (nI ts), .ref atwk, .int (nI rx), .int (nI mn), .ref arow, .ref abox, .ref awrd, .int (nI rd), .ref ablk, .ref amov, .int (nI za), .int (nI zb), .ref ahA, .ref ahB, .ref ahC, .ref anum, .ref amsg, .ref astr]))]) [0] rfl
        have hDc := hD.sub (ws' := [(mo, .inr (7, [.int (nI 0), .int (nI by_), .ref abuf, .int (nI ks), .ref akey, .int (nI ts), .ref atwk, .int (nI rx), .int (nI mn), .ref arow, .ref abox, .ref awrd, .int (nI rd), .ref ablk, .ref amov, .int (nI za), .int (nI zb), .ref ahA, .ref ahB, .ref ahC, .ref anum, .ref amsg, .ref astr]))]) [0] (by decide) rfl
        refine gv_callR (W.runV (As := [.int (nI 0), .int (nI 2)]) (rest := []) ⟨hx, hb, hml, hown, hts⟩ (c_X8_refuses_0 l dC dI cI H.size mo abuf akey atwk arow abox awrd ablk amov ahA ahB ahC anum amsg astr 0 by_ ks ts rx mn rd za zb 2 ) (cwV 2 hts gX8_set_X8_refuses rfl rfl rfl (by decide +kernel) ⟨Nat.le_of_ble_eq_true rfl, Nat.le_of_ble_eq_true rfl⟩) ⟨gPc_blind, va_recv hK hPc (ci := 7) (q0 := 0) rfl rfl, gPc_pre hPc hK hDc⟩ rfl rfl hl.1 rfl (lv_room (Nat.le_of_ble_eq_true rfl)) dX8_set_57 ⟨Nat.zero_le _, Nat.zero_le _⟩) ?_
        clear hPc hDc
        refine gv_if_eq (tgt := 65) hx hb dX8_set_60 (by decide) (by omega) (fun c_60 => ?_) (fun c_60 => ?_)
        ·
          refine lv_aload_n hx hb dX8_set_65 rfl (lv_at hl 0 rfl) ?_
          refine gv_get (own := RX8) (D := (dC, dI)) (ci := 7) (C := RX8) (T := TX8) (N := 23) (v := .ref arow) hx hb hts (by decide +kernel) hown hK hP 0 rfl rfl 9 (by decide) (hts (.fieldLink RX8 26 "NumeralCipherModel" "row" "[I") (by decide +kernel)) rfl rfl dX8_set_66 ?_
          refine lv_iload_n hx hb dX8_set_69 rfl (lv_at hl 1 rfl) ?_
          refine gv_iald hx hb hK hP 1 0 rfl rfl (by omega) (by omega) dX8_set_70 ?_
          refine lv_istore_n (lv' := [(3, .int (nI (ro i))), (0, .ref mo), (1, .int (nI i)), (2, .int (nI n))]) hx hb dX8_set_71 rfl hl (by decide) rfl (fun ls hl => ?_)
          refine lv_aload_n hx hb dX8_set_72 rfl (lv_at hl 1 rfl) ?_
          refine gv_get (own := RX8) (D := (dC, dI)) (ci := 7) (C := RX8) (T := TX8) (N := 23) (v := .ref arow) hx hb hts (by decide +kernel) hown hK hP 0 rfl rfl 9 (by decide) (hts (.fieldLink RX8 26 "NumeralCipherModel" "row" "[I") (by decide +kernel)) rfl rfl dX8_set_73 ?_
          refine lv_iload_n hx hb dX8_set_76 rfl (lv_at hl 2 rfl) ?_
          refine lv_iload_n hx hb dX8_set_77 rfl (lv_at hl 3 rfl) ?_
          refine gv_iast (ws' := [(mo, .inr (7, [.int (nI 0), .int (nI by_), .ref abuf, .int (nI ks), .ref akey, .int (nI ts), .ref atwk, .int (nI rx), .int (nI mn), .ref arow, .ref abox, .ref awrd, .int (nI rd), .ref ablk, .ref amov, .int (nI za), .int (nI zb), .ref ahA, .ref ahB, .ref ahC, .ref anum, .ref amsg, .ref astr])), (arow, .inl (cI, 64, .inl (gA (gU ro i n))))]) hx hb hK hP hD hS 1 0 rfl rfl rfl (by omega) (by omega) dX8_set_78 (fun H locs hP hD hS => ?_)
          refine lv_iload_n hx hb dX8_set_79 rfl (lv_at hl 0 rfl) ?_
          exact W.iret (v := (nI (ro i))) hx hb hr (fun t ht hW => ⟨⟨_, (), rfl, rfl, gB_end ht hW hP hK hD⟩, hS.F ht⟩) hS.2.2 dX8_set_80
        ·
          exact absurd c_60 (by decide)
      ·
        exact absurd c_48 (by decide)
  ·
    exact absurd c_19 (by decide)

set_option maxHeartbeats 4000000 in
set_option maxRecDepth 100000 in
/-- set: b1 -/
theorem c_X8_set_b1 (l : Launch) (dC : Nat → ClassId) (dI : Nat → Nat → Nat) (cI : ClassId) (sz : Nat) (mo : Nat) (abuf : Nat) (akey : Nat) (atwk : Nat) (arow : Nat) (abox : Nat) (awrd : Nat) (ablk : Nat) (amov : Nat) (ahA : Nat) (ahB : Nat) (ahC : Nat) (anum : Nat) (amsg : Nat) (astr : Nat) (th : Nat) (by_ : Nat) (ks : Nat) (ts : Nat) (rx : Nat) (mn : Nat) (rd : Nat) (za : Nat) (zb : Nat) (x : Int32) (x2 : Int32) (hm : mn ≤ 64) (hbad : x.toInt < 0 ∨ (mn : Int) ≤ x.toInt) : Met l yX8_set wsX8_set ({ frames := 1, cells := 0, slots := 0, locals := 25 }) (gPc dC dI cI [.ref mo, .int x, .int x2] [(mo, .inr (7, [.int (nI th), .int (nI by_), .ref abuf, .int (nI ks), .ref akey, .int (nI ts), .ref atwk, .int (nI rx), .int (nI mn), .ref arow, .ref abox, .ref awrd, .int (nI rd), .ref ablk, .ref amov, .int (nI za), .int (nI zb), .ref ahA, .ref ahB, .ref ahC, .ref anum, .ref amsg, .ref astr]))] sz) (va_Qi (fun (r : Int32) (_u : Unit) => r = (nI 0)) (fun _u t => gB dC dI cI (va_A [(mo, .inr (7, [.int (nI th), .int (nI by_), .ref abuf, .int (nI ks), .ref akey, .int (nI ts), .ref atwk, .int (nI rx), .int (nI mn), .ref arow, .ref abox, .ref awrd, .int (nI rd), .ref ablk, .ref amov, .int (nI za), .int (nI zb), .ref ahA, .ref ahB, .ref ahC, .ref anum, .ref amsg, .ref astr]))] sz) [(mo, .inr (7, [.int (nI 1), .int (nI by_), .ref abuf, .int (nI ks), .ref akey, .int (nI ts), .ref atwk, .int (nI rx), .int (nI mn), .ref arow, .ref abox, .ref awrd, .int (nI rd), .ref ablk, .ref amov, .int (nI za), .int (nI zb), .ref ahA, .ref ahB, .ref ahC, .ref anum, .ref amsg, .ref astr]))] t) (va_A [(mo, .inr (7, [.int (nI th), .int (nI by_), .ref abuf, .int (nI ks), .ref akey, .int (nI ts), .ref atwk, .int (nI rx), .int (nI mn), .ref arow, .ref abox, .ref awrd, .int (nI rd), .ref ablk, .ref amov, .int (nI za), .int (nI zb), .ref ahA, .ref ahB, .ref ahC, .ref anum, .ref amsg, .ref astr]))] sz)) 0 0 (va_A [(mo, .inr (7, [.int (nI th), .int (nI by_), .ref abuf, .int (nI ks), .ref akey, .int (nI ts), .ref atwk, .int (nI rx), .int (nI mn), .ref arow, .ref abox, .ref awrd, .int (nI rd), .ref ablk, .ref amov, .int (nI za), .int (nI zb), .ref ahA, .ref ahB, .ref ahC, .ref anum, .ref amsg, .ref astr]))] sz) := by
  refine Met.ofW (cc := cX8_set) (maxL := 4) (ret := (some .int)) (by decide) rfl ?_
  intro p e s m args below meth c s₁ B9 hml hv
  obtain ⟨rfl, hsz, ⟨hP, hK, hD0⟩⟩ := hv
  have hx := B9.exec
  have hb := B9.bytes
  have hr := B9.returns
  have hts := atoms_spec (ws := wsX8_set) B9.pre
  have hown : s.vm.findClass RX8 = some m.cls := findClass_of_methodNamed B9.named
  have hlocks := B9.notSynchronized
  subst hsz
  have hD := hD0.self (sz := s.heap.size)
  generalize hAe : va_A [(mo, .inr (7, [.int (nI th), .int (nI by_), .ref abuf, .int (nI ks), .ref akey, .int (nI ts), .ref atwk, .int (nI rx), .int (nI mn), .ref arow, .ref abox, .ref awrd, .int (nI rd), .ref ablk, .ref amov, .int (nI za), .int (nI zb), .ref ahA, .ref ahB, .ref ahC, .ref anum, .ref amsg, .ref astr]))] s.heap.size = A at hD ⊢
  have hA : ∀ q : Nat, s.heap.size ≤ q → A q := fun q h => by rw [← hAe]; exact Or.inr h
  have hS : va_S A s.heap s.heap [] := va_S.rf
  have hl := lv_entry ([.ref mo, .int x, .int x2]) (n := 4) (Nat.le_of_ble_eq_true rfl)
  rw [lg_entry_eq]
  generalize (lg_sl ([.ref mo, .int x, .int x2]) ++ List.replicate (4 - (lg_sl ([.ref mo, .int x, .int x2])).length) Slot.unset).toArray = ls at hl ⊢
  have hl : lv_has ls 4 [(0, .ref mo), (1, .int x), (2, .int x2)] := hl
  refine lv_aload_n hx hb dX8_set_0 rfl (lv_at hl 0 rfl) ?_
  refine lv_iconst (v := nI 0) hx hb dX8_set_1 (by decide) ?_
  refine gv_put (own := RX8) (D := (dC, dI)) (ci := 7) (C := RX8) (T := TX8) (N := 23) (ws' := [(mo, .inr (7, [.int (nI 0), .int (nI by_), .ref abuf, .int (nI ks), .ref akey, .int (nI ts), .ref atwk, .int (nI rx), .int (nI mn), .ref arow, .ref abox, .ref awrd, .int (nI rd), .ref ablk, .ref amov, .int (nI za), .int (nI zb), .ref ahA, .ref ahB, .ref ahC, .ref anum, .ref amsg, .ref astr]))]) hx hb hts (by decide +kernel) tyX8 tyX8_ok nmX8 hown hK hP hD hS 0 rfl rfl 0 (by decide) (hts (.fieldLink RX8 63 "NumeralCipherModel" "thrown" "I") (by decide +kernel)) rfl rfl (by decide +kernel) (Nat.le_of_ble_eq_true rfl) rfl dX8_set_2 (fun H locs hP hD hS => ?_)
  refine lv_aload_n hx hb dX8_set_5 rfl (lv_at hl 0 rfl) ?_
  refine lv_iload_n hx hb dX8_set_6 rfl (lv_at hl 1 rfl) ?_
  refine lv_i2l (v := x.toInt64) hx hb dX8_set_7 rfl ?_
  refine lv_lconst (v := lN 0) hx hb dX8_set_8 (by decide) ?_
  refine lv_aload_n hx hb dX8_set_9 rfl (lv_at hl 0 rfl) ?_
  refine gv_get (own := RX8) (D := (dC, dI)) (ci := 7) (C := RX8) (T := TX8) (N := 23) (v := .int (nI mn)) hx hb hts (by decide +kernel) hown hK hP 0 rfl rfl 8 (by decide) (hts (.fieldLink RX8 89 "NumeralCipherModel" "many" "I") (by decide +kernel)) rfl rfl dX8_set_10 ?_
  refine lv_iconst (v := nI 1) hx hb dX8_set_13 (by decide) ?_
  refine lv_isub hx hb dX8_set_14 ?_
  refine lv_i2l (v := ((nI mn) - (nI 1)).toInt64) hx hb dX8_set_15 rfl ?_
  refine gv_callR (W.runS (As := [.long x.toInt64, .long (lN 0), .long (((nI mn) - (nI 1)).toInt64)]) (rest := [.ref mo]) ⟨hx, hb, hml, hown, hts⟩ (c_X8_in_0 l x.toInt64 (lN 0) (((nI mn) - (nI 1)).toInt64) (in_raw (pk_lT (by decide)) (in_less (by omega)) (by omega))) (va_cwS 3 hts gX8_set_X8_in rfl rfl rfl (by decide +kernel) ⟨Nat.le_of_ble_eq_true rfl, Nat.le_of_ble_eq_true rfl⟩) ⟨fun a U g mk q => q, fun U hU hW => ⟨rfl, trivial⟩⟩ rfl rfl hl.1 rfl (lv_room (Nat.le_of_ble_eq_true rfl)) dX8_set_16 ⟨Nat.zero_le _, Nat.zero_le _⟩) ?_
  refine gv_if_ne (tgt := 26) hx hb dX8_set_19 (by decide) (by omega) (fun c_19 => ?_) (fun c_19 => ?_)
  ·
    exact absurd c_19 (by decide)
  ·
    refine lv_iconst (v := nI 1) hx hb dX8_set_22 (by decide) ?_
    refine lv_goto (tgt := 27) hx hb dX8_set_23 (by decide) ?_
    refine lv_iconst (v := nI 1) hx hb dX8_set_27 (by decide) ?_
    have hPc := hP.sub (ws' := [(mo, .inr (7, [.int (nI 0), .int (nI by_), .ref abuf, .int (nI ks), .ref akey, .int (nI ts), .ref atwk, .int (nI rx), .int (nI mn), .ref arow, .ref abox, .ref awrd, .int (nI rd), .ref ablk, .ref amov, .int (nI za), .int (nI zb), .ref ahA, .ref ahB, .ref ahC, .ref anum, .ref amsg, .ref astr]))]) [0] rfl
    have hDc := hD.sub (ws' := [(mo, .inr (7, [.int (nI 0), .int (nI by_), .ref abuf, .int (nI ks), .ref akey, .int (nI ts), .ref atwk, .int (nI rx), .int (nI mn), .ref arow, .ref abox, .ref awrd, .int (nI rd), .ref ablk, .ref amov, .int (nI za), .int (nI zb), .ref ahA, .ref ahB, .ref ahC, .ref anum, .ref amsg, .ref astr]))]) [0] (by decide) rfl
    have hFc := va_free (wc := [(mo, .inr (7, [.int (nI 0), .int (nI by_), .ref abuf, .int (nI ks), .ref akey, .int (nI ts), .ref atwk, .int (nI rx), .int (nI mn), .ref arow, .ref abox, .ref awrd, .int (nI rd), .ref ablk, .ref amov, .int (nI za), .int (nI zb), .ref ahA, .ref ahB, .ref ahC, .ref anum, .ref amsg, .ref astr]))]) hD hS hA [0] rfl
    refine va_calli (va_runV (As := [.int (nI 1), .int (nI 1)]) (rest := []) ⟨hx, hb, hml, hown, hts⟩ (c_X8_refuses_1 l dC dI cI H.size mo abuf akey atwk arow abox awrd ablk amov ahA ahB ahC anum amsg astr 0 by_ ks ts rx mn rd za zb 1 (by omega) (by omega)) (cwV 2 hts gX8_set_X8_refuses rfl rfl rfl (by decide +kernel) ⟨Nat.le_of_ble_eq_true rfl, Nat.le_of_ble_eq_true rfl⟩) ⟨gPc_blind, va_recv hK hPc (ci := 7) (q0 := 0) rfl rfl, gPc_pre hPc hK hDc⟩ rfl rfl hl.1 rfl (lv_room (Nat.le_of_ble_eq_true rfl)) dX8_set_28 ⟨Nat.zero_le _, Nat.zero_le _⟩) hS (fun q _ h => hFc q h) hFc (fun r9 u8 t8 H1 locs ht hvm hw hB hz1 hk1 hS => ?_)
    try dsimp only at hw hB
    obtain ⟨hP, hD⟩ := gB_join (wr := []) (w2 := [(mo, .inr (7, [.int (nI 1), .int (nI by_), .ref abuf, .int (nI ks), .ref akey, .int (nI ts), .ref atwk, .int (nI rx), .int (nI mn), .ref arow, .ref abox, .ref awrd, .int (nI rd), .ref ablk, .ref amov, .int (nI za), .int (nI zb), .ref ahA, .ref ahB, .ref ahC, .ref anum, .ref amsg, .ref astr]))]) hP hD [0] [] rfl rfl (by decide) (by decide) hk1 hFc ht hB rfl
    clear hk1 hz1 ht hB hvm hPc hDc hFc
    generalize H1 = H at hP hS ⊢
    subst hw
    refine gv_if_ne (tgt := 63) hx hb dX8_set_31 (by decide) (by omega) (fun c_31 => ?_) (fun c_31 => ?_)
    ·
      refine lv_iconst (v := nI 0) hx hb dX8_set_63 (by decide) ?_
      exact W.iret (v := (nI 0)) hx hb hr (fun t ht hW => ⟨⟨_, (), rfl, rfl, gB_end ht hW hP hK hD⟩, hS.F ht⟩) hS.2.2 dX8_set_64
    ·
      exact absurd c_31 (by decide)

set_option maxHeartbeats 4000000 in
set_option maxRecDepth 100000 in
/-- set: b2 -/
theorem c_X8_set_b2 (l : Launch) (dC : Nat → ClassId) (dI : Nat → Nat → Nat) (cI : ClassId) (sz : Nat) (mo : Nat) (abuf : Nat) (akey : Nat) (atwk : Nat) (arow : Nat) (abox : Nat) (awrd : Nat) (ablk : Nat) (amov : Nat) (ahA : Nat) (ahB : Nat) (ahC : Nat) (anum : Nat) (amsg : Nat) (astr : Nat) (th : Nat) (by_ : Nat) (ks : Nat) (ts : Nat) (rx : Nat) (mn : Nat) (rd : Nat) (za : Nat) (zb : Nat) (i : Nat) (x : Int32) (hi : i < mn) (hm : mn ≤ 64) (hr2 : rx ≤ 65536) (hbad : x.toInt < 0 ∨ (rx : Int) ≤ x.toInt) : Met l yX8_set wsX8_set ({ frames := 1, cells := 0, slots := 0, locals := 25 }) (gPc dC dI cI [.ref mo, .int (nI i), .int x] [(mo, .inr (7, [.int (nI th), .int (nI by_), .ref abuf, .int (nI ks), .ref akey, .int (nI ts), .ref atwk, .int (nI rx), .int (nI mn), .ref arow, .ref abox, .ref awrd, .int (nI rd), .ref ablk, .ref amov, .int (nI za), .int (nI zb), .ref ahA, .ref ahB, .ref ahC, .ref anum, .ref amsg, .ref astr]))] sz) (va_Qi (fun (r : Int32) (_u : Unit) => r = (nI 0)) (fun _u t => gB dC dI cI (va_A [(mo, .inr (7, [.int (nI th), .int (nI by_), .ref abuf, .int (nI ks), .ref akey, .int (nI ts), .ref atwk, .int (nI rx), .int (nI mn), .ref arow, .ref abox, .ref awrd, .int (nI rd), .ref ablk, .ref amov, .int (nI za), .int (nI zb), .ref ahA, .ref ahB, .ref ahC, .ref anum, .ref amsg, .ref astr]))] sz) [(mo, .inr (7, [.int (nI 2), .int (nI by_), .ref abuf, .int (nI ks), .ref akey, .int (nI ts), .ref atwk, .int (nI rx), .int (nI mn), .ref arow, .ref abox, .ref awrd, .int (nI rd), .ref ablk, .ref amov, .int (nI za), .int (nI zb), .ref ahA, .ref ahB, .ref ahC, .ref anum, .ref amsg, .ref astr]))] t) (va_A [(mo, .inr (7, [.int (nI th), .int (nI by_), .ref abuf, .int (nI ks), .ref akey, .int (nI ts), .ref atwk, .int (nI rx), .int (nI mn), .ref arow, .ref abox, .ref awrd, .int (nI rd), .ref ablk, .ref amov, .int (nI za), .int (nI zb), .ref ahA, .ref ahB, .ref ahC, .ref anum, .ref amsg, .ref astr]))] sz)) 0 0 (va_A [(mo, .inr (7, [.int (nI th), .int (nI by_), .ref abuf, .int (nI ks), .ref akey, .int (nI ts), .ref atwk, .int (nI rx), .int (nI mn), .ref arow, .ref abox, .ref awrd, .int (nI rd), .ref ablk, .ref amov, .int (nI za), .int (nI zb), .ref ahA, .ref ahB, .ref ahC, .ref anum, .ref amsg, .ref astr]))] sz) := by
  refine Met.ofW (cc := cX8_set) (maxL := 4) (ret := (some .int)) (by decide) rfl ?_
  intro p e s m args below meth c s₁ B9 hml hv
  obtain ⟨rfl, hsz, ⟨hP, hK, hD0⟩⟩ := hv
  have hx := B9.exec
  have hb := B9.bytes
  have hr := B9.returns
  have hts := atoms_spec (ws := wsX8_set) B9.pre
  have hown : s.vm.findClass RX8 = some m.cls := findClass_of_methodNamed B9.named
  have hlocks := B9.notSynchronized
  subst hsz
  have hD := hD0.self (sz := s.heap.size)
  generalize hAe : va_A [(mo, .inr (7, [.int (nI th), .int (nI by_), .ref abuf, .int (nI ks), .ref akey, .int (nI ts), .ref atwk, .int (nI rx), .int (nI mn), .ref arow, .ref abox, .ref awrd, .int (nI rd), .ref ablk, .ref amov, .int (nI za), .int (nI zb), .ref ahA, .ref ahB, .ref ahC, .ref anum, .ref amsg, .ref astr]))] s.heap.size = A at hD ⊢
  have hA : ∀ q : Nat, s.heap.size ≤ q → A q := fun q h => by rw [← hAe]; exact Or.inr h
  have hS : va_S A s.heap s.heap [] := va_S.rf
  have hl := lv_entry ([.ref mo, .int (nI i), .int x]) (n := 4) (Nat.le_of_ble_eq_true rfl)
  rw [lg_entry_eq]
  generalize (lg_sl ([.ref mo, .int (nI i), .int x]) ++ List.replicate (4 - (lg_sl ([.ref mo, .int (nI i), .int x])).length) Slot.unset).toArray = ls at hl ⊢
  have hl : lv_has ls 4 [(0, .ref mo), (1, .int (nI i)), (2, .int x)] := hl
  refine lv_aload_n hx hb dX8_set_0 rfl (lv_at hl 0 rfl) ?_
  refine lv_iconst (v := nI 0) hx hb dX8_set_1 (by decide) ?_
  refine gv_put (own := RX8) (D := (dC, dI)) (ci := 7) (C := RX8) (T := TX8) (N := 23) (ws' := [(mo, .inr (7, [.int (nI 0), .int (nI by_), .ref abuf, .int (nI ks), .ref akey, .int (nI ts), .ref atwk, .int (nI rx), .int (nI mn), .ref arow, .ref abox, .ref awrd, .int (nI rd), .ref ablk, .ref amov, .int (nI za), .int (nI zb), .ref ahA, .ref ahB, .ref ahC, .ref anum, .ref amsg, .ref astr]))]) hx hb hts (by decide +kernel) tyX8 tyX8_ok nmX8 hown hK hP hD hS 0 rfl rfl 0 (by decide) (hts (.fieldLink RX8 63 "NumeralCipherModel" "thrown" "I") (by decide +kernel)) rfl rfl (by decide +kernel) (Nat.le_of_ble_eq_true rfl) rfl dX8_set_2 (fun H locs hP hD hS => ?_)
  refine lv_aload_n hx hb dX8_set_5 rfl (lv_at hl 0 rfl) ?_
  refine lv_iload_n hx hb dX8_set_6 rfl (lv_at hl 1 rfl) ?_
  refine lv_i2l (v := lN i) hx hb dX8_set_7 (nI_l (by omega)) ?_
  refine lv_lconst (v := lN 0) hx hb dX8_set_8 (by decide) ?_
  refine lv_aload_n hx hb dX8_set_9 rfl (lv_at hl 0 rfl) ?_
  refine gv_get (own := RX8) (D := (dC, dI)) (ci := 7) (C := RX8) (T := TX8) (N := 23) (v := .int (nI mn)) hx hb hts (by decide +kernel) hown hK hP 0 rfl rfl 8 (by decide) (hts (.fieldLink RX8 89 "NumeralCipherModel" "many" "I") (by decide +kernel)) rfl rfl dX8_set_10 ?_
  refine lv_iconst (v := nI 1) hx hb dX8_set_13 (by decide) ?_
  refine gv_isub (r := mn - 1) hx hb dX8_set_14 (by omega) ?_
  refine lv_i2l (v := lN (mn - 1)) hx hb dX8_set_15 (nI_l (by omega)) ?_
  refine gv_callR (W.runS (As := [.long (lN i), .long (lN 0), .long (lN (mn - 1))]) (rest := [.ref mo]) ⟨hx, hb, hml, hown, hts⟩ (c_X8_in_1 l (lN i) (lN 0) (lN (mn - 1)) ((in_nat (v := i) (a := 0) (b := mn - 1) (by omega) (by omega) (by omega)).1) ((in_nat (v := i) (a := 0) (b := mn - 1) (by omega) (by omega) (by omega)).2)) (va_cwS 3 hts gX8_set_X8_in rfl rfl rfl (by decide +kernel) ⟨Nat.le_of_ble_eq_true rfl, Nat.le_of_ble_eq_true rfl⟩) ⟨fun a U g mk q => q, fun U hU hW => ⟨rfl, trivial⟩⟩ rfl rfl hl.1 rfl (lv_room (Nat.le_of_ble_eq_true rfl)) dX8_set_16 ⟨Nat.zero_le _, Nat.zero_le _⟩) ?_
  refine gv_if_ne (tgt := 26) hx hb dX8_set_19 (by decide) (by omega) (fun c_19 => ?_) (fun c_19 => ?_)
  ·
    refine lv_iconst (v := nI 0) hx hb dX8_set_26 (by decide) ?_
    refine lv_iconst (v := nI 1) hx hb dX8_set_27 (by decide) ?_
    have hPc := hP.sub (ws' := [(mo, .inr (7, [.int (nI 0), .int (nI by_), .ref abuf, .int (nI ks), .ref akey, .int (nI ts), .ref atwk, .int (nI rx), .int (nI mn), .ref arow, .ref abox, .ref awrd, .int (nI rd), .ref ablk, .ref amov, .int (nI za), .int (nI zb), .ref ahA, .ref ahB, .ref ahC, .ref anum, .ref amsg, .ref astr]))]) [0] rfl
    have hDc := hD.sub (ws' := [(mo, .inr (7, [.int (nI 0), .int (nI by_), .ref abuf, .int (nI ks), .ref akey, .int (nI ts), .ref atwk, .int (nI rx), .int (nI mn), .ref arow, .ref abox, .ref awrd, .int (nI rd), .ref ablk, .ref amov, .int (nI za), .int (nI zb), .ref ahA, .ref ahB, .ref ahC, .ref anum, .ref amsg, .ref astr]))]) [0] (by decide) rfl
    refine gv_callR (W.runV (As := [.int (nI 0), .int (nI 1)]) (rest := []) ⟨hx, hb, hml, hown, hts⟩ (c_X8_refuses_0 l dC dI cI H.size mo abuf akey atwk arow abox awrd ablk amov ahA ahB ahC anum amsg astr 0 by_ ks ts rx mn rd za zb 1 ) (cwV 2 hts gX8_set_X8_refuses rfl rfl rfl (by decide +kernel) ⟨Nat.le_of_ble_eq_true rfl, Nat.le_of_ble_eq_true rfl⟩) ⟨gPc_blind, va_recv hK hPc (ci := 7) (q0 := 0) rfl rfl, gPc_pre hPc hK hDc⟩ rfl rfl hl.1 rfl (lv_room (Nat.le_of_ble_eq_true rfl)) dX8_set_28 ⟨Nat.zero_le _, Nat.zero_le _⟩) ?_
    clear hPc hDc
    refine gv_if_ne (tgt := 63) hx hb dX8_set_31 (by decide) (by omega) (fun c_31 => ?_) (fun c_31 => ?_)
    ·
      exact absurd c_31 (by decide)
    ·
      refine lv_aload_n hx hb dX8_set_34 rfl (lv_at hl 0 rfl) ?_
      refine lv_iload_n hx hb dX8_set_35 rfl (lv_at hl 2 rfl) ?_
      refine lv_i2l (v := x.toInt64) hx hb dX8_set_36 rfl ?_
      refine lv_lconst (v := lN 0) hx hb dX8_set_37 (by decide) ?_
      refine lv_aload_n hx hb dX8_set_38 rfl (lv_at hl 0 rfl) ?_
      refine gv_get (own := RX8) (D := (dC, dI)) (ci := 7) (C := RX8) (T := TX8) (N := 23) (v := .int (nI rx)) hx hb hts (by decide +kernel) hown hK hP 0 rfl rfl 7 (by decide) (hts (.fieldLink RX8 23 "NumeralCipherModel" "radix" "I") (by decide +kernel)) rfl rfl dX8_set_39 ?_
      refine lv_iconst (v := nI 1) hx hb dX8_set_42 (by decide) ?_
      refine lv_isub hx hb dX8_set_43 ?_
      refine lv_i2l (v := ((nI rx) - (nI 1)).toInt64) hx hb dX8_set_44 rfl ?_
      refine gv_callR (W.runS (As := [.long x.toInt64, .long (lN 0), .long (((nI rx) - (nI 1)).toInt64)]) (rest := [.ref mo]) ⟨hx, hb, hml, hown, hts⟩ (c_X8_in_0 l x.toInt64 (lN 0) (((nI rx) - (nI 1)).toInt64) (in_raw (pk_lT (by decide)) (in_less (by omega)) (by omega))) (va_cwS 3 hts gX8_set_X8_in rfl rfl rfl (by decide +kernel) ⟨Nat.le_of_ble_eq_true rfl, Nat.le_of_ble_eq_true rfl⟩) ⟨fun a U g mk q => q, fun U hU hW => ⟨rfl, trivial⟩⟩ rfl rfl hl.1 rfl (lv_room (Nat.le_of_ble_eq_true rfl)) dX8_set_45 ⟨Nat.zero_le _, Nat.zero_le _⟩) ?_
      refine gv_if_ne (tgt := 55) hx hb dX8_set_48 (by decide) (by omega) (fun c_48 => ?_) (fun c_48 => ?_)
      ·
        exact absurd c_48 (by decide)
      ·
        refine lv_iconst (v := nI 1) hx hb dX8_set_51 (by decide) ?_
        refine lv_goto (tgt := 56) hx hb dX8_set_52 (by decide) ?_
        refine lv_iconst (v := nI 2) hx hb dX8_set_56 (by decide) ?_
        have hPc := hP.sub (ws' := [(mo, .inr (7, [.int (nI 0), .int (nI by_), .ref abuf, .int (nI ks), .ref akey, .int (nI ts), .ref atwk, .int (nI rx), .int (nI mn), .ref arow, .ref abox, .ref awrd, .int (nI rd), .ref ablk, .ref amov, .int (nI za), .int (nI zb), .ref ahA, .ref ahB, .ref ahC, .ref anum, .ref amsg, .ref astr]))]) [0] rfl
        have hDc := hD.sub (ws' := [(mo, .inr (7, [.int (nI 0), .int (nI by_), .ref abuf, .int (nI ks), .ref akey, .int (nI ts), .ref atwk, .int (nI rx), .int (nI mn), .ref arow, .ref abox, .ref awrd, .int (nI rd), .ref ablk, .ref amov, .int (nI za), .int (nI zb), .ref ahA, .ref ahB, .ref ahC, .ref anum, .ref amsg, .ref astr]))]) [0] (by decide) rfl
        have hFc := va_free (wc := [(mo, .inr (7, [.int (nI 0), .int (nI by_), .ref abuf, .int (nI ks), .ref akey, .int (nI ts), .ref atwk, .int (nI rx), .int (nI mn), .ref arow, .ref abox, .ref awrd, .int (nI rd), .ref ablk, .ref amov, .int (nI za), .int (nI zb), .ref ahA, .ref ahB, .ref ahC, .ref anum, .ref amsg, .ref astr]))]) hD hS hA [0] rfl
        refine va_calli (va_runV (As := [.int (nI 1), .int (nI 2)]) (rest := []) ⟨hx, hb, hml, hown, hts⟩ (c_X8_refuses_1 l dC dI cI H.size mo abuf akey atwk arow abox awrd ablk amov ahA ahB ahC anum amsg astr 0 by_ ks ts rx mn rd za zb 2 (by omega) (by omega)) (cwV 2 hts gX8_set_X8_refuses rfl rfl rfl (by decide +kernel) ⟨Nat.le_of_ble_eq_true rfl, Nat.le_of_ble_eq_true rfl⟩) ⟨gPc_blind, va_recv hK hPc (ci := 7) (q0 := 0) rfl rfl, gPc_pre hPc hK hDc⟩ rfl rfl hl.1 rfl (lv_room (Nat.le_of_ble_eq_true rfl)) dX8_set_57 ⟨Nat.zero_le _, Nat.zero_le _⟩) hS (fun q _ h => hFc q h) hFc (fun r9 u8 t8 H1 locs ht hvm hw hB hz1 hk1 hS => ?_)
        try dsimp only at hw hB
        obtain ⟨hP, hD⟩ := gB_join (wr := []) (w2 := [(mo, .inr (7, [.int (nI 2), .int (nI by_), .ref abuf, .int (nI ks), .ref akey, .int (nI ts), .ref atwk, .int (nI rx), .int (nI mn), .ref arow, .ref abox, .ref awrd, .int (nI rd), .ref ablk, .ref amov, .int (nI za), .int (nI zb), .ref ahA, .ref ahB, .ref ahC, .ref anum, .ref amsg, .ref astr]))]) hP hD [0] [] rfl rfl (by decide) (by decide) hk1 hFc ht hB rfl
        clear hk1 hz1 ht hB hvm hPc hDc hFc
        generalize H1 = H at hP hS ⊢
        subst hw
        refine gv_if_eq (tgt := 65) hx hb dX8_set_60 (by decide) (by omega) (fun c_60 => ?_) (fun c_60 => ?_)
        ·
          exact absurd c_60 (by decide)
        ·
          refine lv_iconst (v := nI 0) hx hb dX8_set_63 (by decide) ?_
          exact W.iret (v := (nI 0)) hx hb hr (fun t ht hW => ⟨⟨_, (), rfl, rfl, gB_end ht hW hP hK hD⟩, hS.F ht⟩) hS.2.2 dX8_set_64
  ·
    exact absurd c_19 (by decide)

set_option maxHeartbeats 4000000 in
set_option maxRecDepth 100000 in
/-- at: ok -/
theorem c_X8_at_ok (l : Launch) (dC : Nat → ClassId) (dI : Nat → Nat → Nat) (cI : ClassId) (sz : Nat) (mo : Nat) (abuf : Nat) (akey : Nat) (atwk : Nat) (arow : Nat) (abox : Nat) (awrd : Nat) (ablk : Nat) (amov : Nat) (ahA : Nat) (ahB : Nat) (ahC : Nat) (anum : Nat) (amsg : Nat) (astr : Nat) (th : Nat) (by_ : Nat) (ks : Nat) (ts : Nat) (rx : Nat) (mn : Nat) (rd : Nat) (za : Nat) (zb : Nat) (i : Nat) (ro : Nat → Nat) (hi : i < mn) (hm : mn ≤ 64) : Met l yX8_at wsX8_at ({ frames := 1, cells := 0, slots := 0, locals := 25 }) (gPc dC dI cI [.ref mo, .int (nI i)] [(mo, .inr (7, [.int (nI th), .int (nI by_), .ref abuf, .int (nI ks), .ref akey, .int (nI ts), .ref atwk, .int (nI rx), .int (nI mn), .ref arow, .ref abox, .ref awrd, .int (nI rd), .ref ablk, .ref amov, .int (nI za), .int (nI zb), .ref ahA, .ref ahB, .ref ahC, .ref anum, .ref amsg, .ref astr])), (arow, .inl (cI, 64, .inl (gA ro)))] sz) (va_Qi (fun (r : Int32) (_u : Unit) => r = (nI (ro i))) (fun _u t => gB dC dI cI (va_A [(mo, .inr (7, [.int (nI th), .int (nI by_), .ref abuf, .int (nI ks), .ref akey, .int (nI ts), .ref atwk, .int (nI rx), .int (nI mn), .ref arow, .ref abox, .ref awrd, .int (nI rd), .ref ablk, .ref amov, .int (nI za), .int (nI zb), .ref ahA, .ref ahB, .ref ahC, .ref anum, .ref amsg, .ref astr])), (arow, .inl (cI, 64, .inl (gA ro)))] sz) [(mo, .inr (7, [.int (nI 0), .int (nI by_), .ref abuf, .int (nI ks), .ref akey, .int (nI ts), .ref atwk, .int (nI rx), .int (nI mn), .ref arow, .ref abox, .ref awrd, .int (nI rd), .ref ablk, .ref amov, .int (nI za), .int (nI zb), .ref ahA, .ref ahB, .ref ahC, .ref anum, .ref amsg, .ref astr])), (arow, .inl (cI, 64, .inl (gA ro)))] t) (va_A [(mo, .inr (7, [.int (nI th), .int (nI by_), .ref abuf, .int (nI ks), .ref akey, .int (nI ts), .ref atwk, .int (nI rx), .int (nI mn), .ref arow, .ref abox, .ref awrd, .int (nI rd), .ref ablk, .ref amov, .int (nI za), .int (nI zb), .ref ahA, .ref ahB, .ref ahC, .ref anum, .ref amsg, .ref astr])), (arow, .inl (cI, 64, .inl (gA ro)))] sz)) 0 0 (va_A [(mo, .inr (7, [.int (nI th), .int (nI by_), .ref abuf, .int (nI ks), .ref akey, .int (nI ts), .ref atwk, .int (nI rx), .int (nI mn), .ref arow, .ref abox, .ref awrd, .int (nI rd), .ref ablk, .ref amov, .int (nI za), .int (nI zb), .ref ahA, .ref ahB, .ref ahC, .ref anum, .ref amsg, .ref astr])), (arow, .inl (cI, 64, .inl (gA ro)))] sz) := by
  refine Met.ofW (cc := cX8_at) (maxL := 2) (ret := (some .int)) (by decide) rfl ?_
  intro p e s m args below meth c s₁ B9 hml hv
  obtain ⟨rfl, hsz, ⟨hP, hK, hD0⟩⟩ := hv
  have hx := B9.exec
  have hb := B9.bytes
  have hr := B9.returns
  have hts := atoms_spec (ws := wsX8_at) B9.pre
  have hown : s.vm.findClass RX8 = some m.cls := findClass_of_methodNamed B9.named
  have hlocks := B9.notSynchronized
  subst hsz
  have hD := hD0.self (sz := s.heap.size)
  generalize hAe : va_A [(mo, .inr (7, [.int (nI th), .int (nI by_), .ref abuf, .int (nI ks), .ref akey, .int (nI ts), .ref atwk, .int (nI rx), .int (nI mn), .ref arow, .ref abox, .ref awrd, .int (nI rd), .ref ablk, .ref amov, .int (nI za), .int (nI zb), .ref ahA, .ref ahB, .ref ahC, .ref anum, .ref amsg, .ref astr])), (arow, .inl (cI, 64, .inl (gA ro)))] s.heap.size = A at hD ⊢
  have hA : ∀ q : Nat, s.heap.size ≤ q → A q := fun q h => by rw [← hAe]; exact Or.inr h
  have hS : va_S A s.heap s.heap [] := va_S.rf
  have hl := lv_entry ([.ref mo, .int (nI i)]) (n := 2) (Nat.le_of_ble_eq_true rfl)
  rw [lg_entry_eq]
  generalize (lg_sl ([.ref mo, .int (nI i)]) ++ List.replicate (2 - (lg_sl ([.ref mo, .int (nI i)])).length) Slot.unset).toArray = ls at hl ⊢
  have hl : lv_has ls 2 [(0, .ref mo), (1, .int (nI i))] := hl
  refine lv_aload_n hx hb dX8_at_0 rfl (lv_at hl 0 rfl) ?_
  refine lv_iconst (v := nI 0) hx hb dX8_at_1 (by decide) ?_
  refine gv_put (own := RX8) (D := (dC, dI)) (ci := 7) (C := RX8) (T := TX8) (N := 23) (ws' := [(mo, .inr (7, [.int (nI 0), .int (nI by_), .ref abuf, .int (nI ks), .ref akey, .int (nI ts), .ref atwk, .int (nI rx), .int (nI mn), .ref arow, .ref abox, .ref awrd, .int (nI rd), .ref ablk, .ref amov, .int (nI za), .int (nI zb), .ref ahA, .ref ahB, .ref ahC, .ref anum, .ref amsg, .ref astr])), (arow, .inl (cI, 64, .inl (gA ro)))]) hx hb hts (by decide +kernel) tyX8 tyX8_ok nmX8 hown hK hP hD hS 0 rfl rfl 0 (by decide) (hts (.fieldLink RX8 63 "NumeralCipherModel" "thrown" "I") (by decide +kernel)) rfl rfl (by decide +kernel) (Nat.le_of_ble_eq_true rfl) rfl dX8_at_2 (fun H locs hP hD hS => ?_)
  refine lv_aload_n hx hb dX8_at_5 rfl (lv_at hl 0 rfl) ?_
  refine lv_iload_n hx hb dX8_at_6 rfl (lv_at hl 1 rfl) ?_
  refine lv_i2l (v := lN i) hx hb dX8_at_7 (nI_l (by omega)) ?_
  refine lv_lconst (v := lN 0) hx hb dX8_at_8 (by decide) ?_
  refine lv_aload_n hx hb dX8_at_9 rfl (lv_at hl 0 rfl) ?_
  refine gv_get (own := RX8) (D := (dC, dI)) (ci := 7) (C := RX8) (T := TX8) (N := 23) (v := .int (nI mn)) hx hb hts (by decide +kernel) hown hK hP 0 rfl rfl 8 (by decide) (hts (.fieldLink RX8 89 "NumeralCipherModel" "many" "I") (by decide +kernel)) rfl rfl dX8_at_10 ?_
  refine lv_iconst (v := nI 1) hx hb dX8_at_13 (by decide) ?_
  refine gv_isub (r := mn - 1) hx hb dX8_at_14 (by omega) ?_
  refine lv_i2l (v := lN (mn - 1)) hx hb dX8_at_15 (nI_l (by omega)) ?_
  refine gv_callR (W.runS (As := [.long (lN i), .long (lN 0), .long (lN (mn - 1))]) (rest := [.ref mo]) ⟨hx, hb, hml, hown, hts⟩ (c_X8_in_1 l (lN i) (lN 0) (lN (mn - 1)) ((in_nat (v := i) (a := 0) (b := mn - 1) (by omega) (by omega) (by omega)).1) ((in_nat (v := i) (a := 0) (b := mn - 1) (by omega) (by omega) (by omega)).2)) (va_cwS 3 hts gX8_at_X8_in rfl rfl rfl (by decide +kernel) ⟨Nat.le_of_ble_eq_true rfl, Nat.le_of_ble_eq_true rfl⟩) ⟨fun a U g mk q => q, fun U hU hW => ⟨rfl, trivial⟩⟩ rfl rfl hl.1 rfl (lv_room (Nat.le_of_ble_eq_true rfl)) dX8_at_16 ⟨Nat.zero_le _, Nat.zero_le _⟩) ?_
  refine gv_if_ne (tgt := 26) hx hb dX8_at_19 (by decide) (by omega) (fun c_19 => ?_) (fun c_19 => ?_)
  ·
    refine lv_iconst (v := nI 0) hx hb dX8_at_26 (by decide) ?_
    refine lv_iconst (v := nI 1) hx hb dX8_at_27 (by decide) ?_
    have hPc := hP.sub (ws' := [(mo, .inr (7, [.int (nI 0), .int (nI by_), .ref abuf, .int (nI ks), .ref akey, .int (nI ts), .ref atwk, .int (nI rx), .int (nI mn), .ref arow, .ref abox, .ref awrd, .int (nI rd), .ref ablk, .ref amov, .int (nI za), .int (nI zb), .ref ahA, .ref ahB, .ref ahC, .ref anum, .ref amsg, .ref astr]))]) [0] rfl
    have hDc := hD.sub (ws' := [(mo, .inr (7, [.int (nI 0), .int (nI by_), .ref abuf, .int (nI ks), .ref akey, .int (nI ts), .ref atwk, .int (nI rx), .int (nI mn), .ref arow, .ref abox, .ref awrd, .int (nI rd), .ref ablk, .ref amov, .int (nI za), .int (nI zb), .ref ahA, .ref ahB, .ref ahC, .ref anum, .ref amsg, .ref astr]))]) [0] (by decide) rfl
    refine gv_callR (W.runV (As := [.int (nI 0), .int (nI 1)]) (rest := []) ⟨hx, hb, hml, hown, hts⟩ (c_X8_refuses_0 l dC dI cI H.size mo abuf akey atwk arow abox awrd ablk amov ahA ahB ahC anum amsg astr 0 by_ ks ts rx mn rd za zb 1 ) (cwV 2 hts gX8_at_X8_refuses rfl rfl rfl (by decide +kernel) ⟨Nat.le_of_ble_eq_true rfl, Nat.le_of_ble_eq_true rfl⟩) ⟨gPc_blind, va_recv hK hPc (ci := 7) (q0 := 0) rfl rfl, gPc_pre hPc hK hDc⟩ rfl rfl hl.1 rfl (lv_room (Nat.le_of_ble_eq_true rfl)) dX8_at_28 ⟨Nat.zero_le _, Nat.zero_le _⟩) ?_
    clear hPc hDc
    refine gv_if_eq (tgt := 38) hx hb dX8_at_31 (by decide) (by omega) (fun c_31 => ?_) (fun c_31 => ?_)
    ·
      refine lv_aload_n hx hb dX8_at_38 rfl (lv_at hl 0 rfl) ?_
      refine gv_get (own := RX8) (D := (dC, dI)) (ci := 7) (C := RX8) (T := TX8) (N := 23) (v := .ref arow) hx hb hts (by decide +kernel) hown hK hP 0 rfl rfl 9 (by decide) (hts (.fieldLink RX8 26 "NumeralCipherModel" "row" "[I") (by decide +kernel)) rfl rfl dX8_at_39 ?_
      refine lv_iload_n hx hb dX8_at_42 rfl (lv_at hl 1 rfl) ?_
      refine gv_iald hx hb hK hP 1 0 rfl rfl (by omega) (by omega) dX8_at_43 ?_
      exact W.iret (v := (nI (ro i))) hx hb hr (fun t ht hW => ⟨⟨_, (), rfl, rfl, gB_end ht hW hP hK hD⟩, hS.F ht⟩) hS.2.2 dX8_at_44
    ·
      exact absurd c_31 (by decide)
  ·
    exact absurd c_19 (by decide)

set_option maxHeartbeats 4000000 in
set_option maxRecDepth 100000 in
/-- at: b1 -/
theorem c_X8_at_b1 (l : Launch) (dC : Nat → ClassId) (dI : Nat → Nat → Nat) (cI : ClassId) (sz : Nat) (mo : Nat) (abuf : Nat) (akey : Nat) (atwk : Nat) (arow : Nat) (abox : Nat) (awrd : Nat) (ablk : Nat) (amov : Nat) (ahA : Nat) (ahB : Nat) (ahC : Nat) (anum : Nat) (amsg : Nat) (astr : Nat) (th : Nat) (by_ : Nat) (ks : Nat) (ts : Nat) (rx : Nat) (mn : Nat) (rd : Nat) (za : Nat) (zb : Nat) (x : Int32) (hm : mn ≤ 64) (hbad : x.toInt < 0 ∨ (mn : Int) ≤ x.toInt) : Met l yX8_at wsX8_at ({ frames := 1, cells := 0, slots := 0, locals := 25 }) (gPc dC dI cI [.ref mo, .int x] [(mo, .inr (7, [.int (nI th), .int (nI by_), .ref abuf, .int (nI ks), .ref akey, .int (nI ts), .ref atwk, .int (nI rx), .int (nI mn), .ref arow, .ref abox, .ref awrd, .int (nI rd), .ref ablk, .ref amov, .int (nI za), .int (nI zb), .ref ahA, .ref ahB, .ref ahC, .ref anum, .ref amsg, .ref astr]))] sz) (va_Qi (fun (r : Int32) (_u : Unit) => r = (nI 0)) (fun _u t => gB dC dI cI (va_A [(mo, .inr (7, [.int (nI th), .int (nI by_), .ref abuf, .int (nI ks), .ref akey, .int (nI ts), .ref atwk, .int (nI rx), .int (nI mn), .ref arow, .ref abox, .ref awrd, .int (nI rd), .ref ablk, .ref amov, .int (nI za), .int (nI zb), .ref ahA, .ref ahB, .ref ahC, .ref anum, .ref amsg, .ref astr]))] sz) [(mo, .inr (7, [.int (nI 1), .int (nI by_), .ref abuf, .int (nI ks), .ref akey, .int (nI ts), .ref atwk, .int (nI rx), .int (nI mn), .ref arow, .ref abox, .ref awrd, .int (nI rd), .ref ablk, .ref amov, .int (nI za), .int (nI zb), .ref ahA, .ref ahB, .ref ahC, .ref anum, .ref amsg, .ref astr]))] t) (va_A [(mo, .inr (7, [.int (nI th), .int (nI by_), .ref abuf, .int (nI ks), .ref akey, .int (nI ts), .ref atwk, .int (nI rx), .int (nI mn), .ref arow, .ref abox, .ref awrd, .int (nI rd), .ref ablk, .ref amov, .int (nI za), .int (nI zb), .ref ahA, .ref ahB, .ref ahC, .ref anum, .ref amsg, .ref astr]))] sz)) 0 0 (va_A [(mo, .inr (7, [.int (nI th), .int (nI by_), .ref abuf, .int (nI ks), .ref akey, .int (nI ts), .ref atwk, .int (nI rx), .int (nI mn), .ref arow, .ref abox, .ref awrd, .int (nI rd), .ref ablk, .ref amov, .int (nI za), .int (nI zb), .ref ahA, .ref ahB, .ref ahC, .ref anum, .ref amsg, .ref astr]))] sz) := by
  refine Met.ofW (cc := cX8_at) (maxL := 2) (ret := (some .int)) (by decide) rfl ?_
  intro p e s m args below meth c s₁ B9 hml hv
  obtain ⟨rfl, hsz, ⟨hP, hK, hD0⟩⟩ := hv
  have hx := B9.exec
  have hb := B9.bytes
  have hr := B9.returns
  have hts := atoms_spec (ws := wsX8_at) B9.pre
  have hown : s.vm.findClass RX8 = some m.cls := findClass_of_methodNamed B9.named
  have hlocks := B9.notSynchronized
  subst hsz
  have hD := hD0.self (sz := s.heap.size)
  generalize hAe : va_A [(mo, .inr (7, [.int (nI th), .int (nI by_), .ref abuf, .int (nI ks), .ref akey, .int (nI ts), .ref atwk, .int (nI rx), .int (nI mn), .ref arow, .ref abox, .ref awrd, .int (nI rd), .ref ablk, .ref amov, .int (nI za), .int (nI zb), .ref ahA, .ref ahB, .ref ahC, .ref anum, .ref amsg, .ref astr]))] s.heap.size = A at hD ⊢
  have hA : ∀ q : Nat, s.heap.size ≤ q → A q := fun q h => by rw [← hAe]; exact Or.inr h
  have hS : va_S A s.heap s.heap [] := va_S.rf
  have hl := lv_entry ([.ref mo, .int x]) (n := 2) (Nat.le_of_ble_eq_true rfl)
  rw [lg_entry_eq]
  generalize (lg_sl ([.ref mo, .int x]) ++ List.replicate (2 - (lg_sl ([.ref mo, .int x])).length) Slot.unset).toArray = ls at hl ⊢
  have hl : lv_has ls 2 [(0, .ref mo), (1, .int x)] := hl
  refine lv_aload_n hx hb dX8_at_0 rfl (lv_at hl 0 rfl) ?_
  refine lv_iconst (v := nI 0) hx hb dX8_at_1 (by decide) ?_
  refine gv_put (own := RX8) (D := (dC, dI)) (ci := 7) (C := RX8) (T := TX8) (N := 23) (ws' := [(mo, .inr (7, [.int (nI 0), .int (nI by_), .ref abuf, .int (nI ks), .ref akey, .int (nI ts), .ref atwk, .int (nI rx), .int (nI mn), .ref arow, .ref abox, .ref awrd, .int (nI rd), .ref ablk, .ref amov, .int (nI za), .int (nI zb), .ref ahA, .ref ahB, .ref ahC, .ref anum, .ref amsg, .ref astr]))]) hx hb hts (by decide +kernel) tyX8 tyX8_ok nmX8 hown hK hP hD hS 0 rfl rfl 0 (by decide) (hts (.fieldLink RX8 63 "NumeralCipherModel" "thrown" "I") (by decide +kernel)) rfl rfl (by decide +kernel) (Nat.le_of_ble_eq_true rfl) rfl dX8_at_2 (fun H locs hP hD hS => ?_)
  refine lv_aload_n hx hb dX8_at_5 rfl (lv_at hl 0 rfl) ?_
  refine lv_iload_n hx hb dX8_at_6 rfl (lv_at hl 1 rfl) ?_
  refine lv_i2l (v := x.toInt64) hx hb dX8_at_7 rfl ?_
  refine lv_lconst (v := lN 0) hx hb dX8_at_8 (by decide) ?_
  refine lv_aload_n hx hb dX8_at_9 rfl (lv_at hl 0 rfl) ?_
  refine gv_get (own := RX8) (D := (dC, dI)) (ci := 7) (C := RX8) (T := TX8) (N := 23) (v := .int (nI mn)) hx hb hts (by decide +kernel) hown hK hP 0 rfl rfl 8 (by decide) (hts (.fieldLink RX8 89 "NumeralCipherModel" "many" "I") (by decide +kernel)) rfl rfl dX8_at_10 ?_
  refine lv_iconst (v := nI 1) hx hb dX8_at_13 (by decide) ?_
  refine lv_isub hx hb dX8_at_14 ?_
  refine lv_i2l (v := ((nI mn) - (nI 1)).toInt64) hx hb dX8_at_15 rfl ?_
  refine gv_callR (W.runS (As := [.long x.toInt64, .long (lN 0), .long (((nI mn) - (nI 1)).toInt64)]) (rest := [.ref mo]) ⟨hx, hb, hml, hown, hts⟩ (c_X8_in_0 l x.toInt64 (lN 0) (((nI mn) - (nI 1)).toInt64) (in_raw (pk_lT (by decide)) (in_less (by omega)) (by omega))) (va_cwS 3 hts gX8_at_X8_in rfl rfl rfl (by decide +kernel) ⟨Nat.le_of_ble_eq_true rfl, Nat.le_of_ble_eq_true rfl⟩) ⟨fun a U g mk q => q, fun U hU hW => ⟨rfl, trivial⟩⟩ rfl rfl hl.1 rfl (lv_room (Nat.le_of_ble_eq_true rfl)) dX8_at_16 ⟨Nat.zero_le _, Nat.zero_le _⟩) ?_
  refine gv_if_ne (tgt := 26) hx hb dX8_at_19 (by decide) (by omega) (fun c_19 => ?_) (fun c_19 => ?_)
  ·
    exact absurd c_19 (by decide)
  ·
    refine lv_iconst (v := nI 1) hx hb dX8_at_22 (by decide) ?_
    refine lv_goto (tgt := 27) hx hb dX8_at_23 (by decide) ?_
    refine lv_iconst (v := nI 1) hx hb dX8_at_27 (by decide) ?_
    have hPc := hP.sub (ws' := [(mo, .inr (7, [.int (nI 0), .int (nI by_), .ref abuf, .int (nI ks), .ref akey, .int (nI ts), .ref atwk, .int (nI rx), .int (nI mn), .ref arow, .ref abox, .ref awrd, .int (nI rd), .ref ablk, .ref amov, .int (nI za), .int (nI zb), .ref ahA, .ref ahB, .ref ahC, .ref anum, .ref amsg, .ref astr]))]) [0] rfl
    have hDc := hD.sub (ws' := [(mo, .inr (7, [.int (nI 0), .int (nI by_), .ref abuf, .int (nI ks), .ref akey, .int (nI ts), .ref atwk, .int (nI rx), .int (nI mn), .ref arow, .ref abox, .ref awrd, .int (nI rd), .ref ablk, .ref amov, .int (nI za), .int (nI zb), .ref ahA, .ref ahB, .ref ahC, .ref anum, .ref amsg, .ref astr]))]) [0] (by decide) rfl
    have hFc := va_free (wc := [(mo, .inr (7, [.int (nI 0), .int (nI by_), .ref abuf, .int (nI ks), .ref akey, .int (nI ts), .ref atwk, .int (nI rx), .int (nI mn), .ref arow, .ref abox, .ref awrd, .int (nI rd), .ref ablk, .ref amov, .int (nI za), .int (nI zb), .ref ahA, .ref ahB, .ref ahC, .ref anum, .ref amsg, .ref astr]))]) hD hS hA [0] rfl
    refine va_calli (va_runV (As := [.int (nI 1), .int (nI 1)]) (rest := []) ⟨hx, hb, hml, hown, hts⟩ (c_X8_refuses_1 l dC dI cI H.size mo abuf akey atwk arow abox awrd ablk amov ahA ahB ahC anum amsg astr 0 by_ ks ts rx mn rd za zb 1 (by omega) (by omega)) (cwV 2 hts gX8_at_X8_refuses rfl rfl rfl (by decide +kernel) ⟨Nat.le_of_ble_eq_true rfl, Nat.le_of_ble_eq_true rfl⟩) ⟨gPc_blind, va_recv hK hPc (ci := 7) (q0 := 0) rfl rfl, gPc_pre hPc hK hDc⟩ rfl rfl hl.1 rfl (lv_room (Nat.le_of_ble_eq_true rfl)) dX8_at_28 ⟨Nat.zero_le _, Nat.zero_le _⟩) hS (fun q _ h => hFc q h) hFc (fun r9 u8 t8 H1 locs ht hvm hw hB hz1 hk1 hS => ?_)
    try dsimp only at hw hB
    obtain ⟨hP, hD⟩ := gB_join (wr := []) (w2 := [(mo, .inr (7, [.int (nI 1), .int (nI by_), .ref abuf, .int (nI ks), .ref akey, .int (nI ts), .ref atwk, .int (nI rx), .int (nI mn), .ref arow, .ref abox, .ref awrd, .int (nI rd), .ref ablk, .ref amov, .int (nI za), .int (nI zb), .ref ahA, .ref ahB, .ref ahC, .ref anum, .ref amsg, .ref astr]))]) hP hD [0] [] rfl rfl (by decide) (by decide) hk1 hFc ht hB rfl
    clear hk1 hz1 ht hB hvm hPc hDc hFc
    generalize H1 = H at hP hS ⊢
    subst hw
    refine gv_if_eq (tgt := 38) hx hb dX8_at_31 (by decide) (by omega) (fun c_31 => ?_) (fun c_31 => ?_)
    ·
      exact absurd c_31 (by decide)
    ·
      refine lv_iconst (v := nI 0) hx hb dX8_at_34 (by decide) ?_
      refine lv_goto (tgt := 44) hx hb dX8_at_35 (by decide) ?_
      exact W.iret (v := (nI 0)) hx hb hr (fun t ht hW => ⟨⟨_, (), rfl, rfl, gB_end ht hW hP hK hD⟩, hS.F ht⟩) hS.2.2 dX8_at_44

set_option maxHeartbeats 4000000 in
set_option maxRecDepth 100000 in
/-- can: 0 -/
theorem c_X8_can_0 (l : Launch) (dC : Nat → ClassId) (dI : Nat → Nat → Nat) (cI : ClassId) (sz : Nat) (mo : Nat) (abuf : Nat) (akey : Nat) (atwk : Nat) (arow : Nat) (abox : Nat) (awrd : Nat) (ablk : Nat) (amov : Nat) (ahA : Nat) (ahB : Nat) (ahC : Nat) (anum : Nat) (amsg : Nat) (astr : Nat) (th : Nat) (by_ : Nat) (ks : Nat) (ts : Nat) (rx : Nat) (mn : Nat) (rd : Nat) (za : Nat) (zb : Nat) (c0 : Nat → Nat) (u0 : Nat → Nat) (hr1 : 2 ≤ rx) (hr2 : rx ≤ 65536) (hm2 : mn ≤ 64) (hts7 : ts ≤ 64) : Met l yX8_can wsX8_can ({ frames := 1, cells := 0, slots := 0, locals := 25 }) (gPc dC dI cI [.ref mo, .int (nI 0)] [(mo, .inr (7, [.int (nI th), .int (nI by_), .ref abuf, .int (nI ks), .ref akey, .int (nI ts), .ref atwk, .int (nI rx), .int (nI mn), .ref arow, .ref abox, .ref awrd, .int (nI rd), .ref ablk, .ref amov, .int (nI za), .int (nI zb), .ref ahA, .ref ahB, .ref ahC, .ref anum, .ref amsg, .ref astr])), (ahC, .inl (cI, 64, .inl (gA c0))), (anum, .inl (cI, 128, .inl (gA u0)))] sz) (va_Qi (fun (r : Int32) (u : (Nat → Nat) × (Nat → Nat)) => r = (nI (if 2 ≤ mn ∧ 1000000 ≤ rx ^ mn then 1 else 0))) (fun u t => gB dC dI cI (va_A [(mo, .inr (7, [.int (nI th), .int (nI by_), .ref abuf, .int (nI ks), .ref akey, .int (nI ts), .ref atwk, .int (nI rx), .int (nI mn), .ref arow, .ref abox, .ref awrd, .int (nI rd), .ref ablk, .ref amov, .int (nI za), .int (nI zb), .ref ahA, .ref ahB, .ref ahC, .ref anum, .ref amsg, .ref astr])), (ahC, .inl (cI, 64, .inl (gA c0))), (anum, .inl (cI, 128, .inl (gA u0)))] sz) [(mo, .inr (7, [.int (nI 0), .int (nI by_), .ref abuf, .int (nI ks), .ref akey, .int (nI ts), .ref atwk, .int (nI rx), .int (nI mn), .ref arow, .ref abox, .ref awrd, .int (nI rd), .ref ablk, .ref amov, .int (nI za), .int (nI zb), .ref ahA, .ref ahB, .ref ahC, .ref anum, .ref amsg, .ref astr])), (ahC, .inl (cI, 64, .inl (gA u.1))), (anum, .inl (cI, 128, .inl (gA u.2)))] t) (va_A [(mo, .inr (7, [.int (nI th), .int (nI by_), .ref abuf, .int (nI ks), .ref akey, .int (nI ts), .ref atwk, .int (nI rx), .int (nI mn), .ref arow, .ref abox, .ref awrd, .int (nI rd), .ref ablk, .ref amov, .int (nI za), .int (nI zb), .ref ahA, .ref ahB, .ref ahC, .ref anum, .ref amsg, .ref astr])), (ahC, .inl (cI, 64, .inl (gA c0))), (anum, .inl (cI, 128, .inl (gA u0)))] sz)) 0 0 (va_A [(mo, .inr (7, [.int (nI th), .int (nI by_), .ref abuf, .int (nI ks), .ref akey, .int (nI ts), .ref atwk, .int (nI rx), .int (nI mn), .ref arow, .ref abox, .ref awrd, .int (nI rd), .ref ablk, .ref amov, .int (nI za), .int (nI zb), .ref ahA, .ref ahB, .ref ahC, .ref anum, .ref amsg, .ref astr])), (ahC, .inl (cI, 64, .inl (gA c0))), (anum, .inl (cI, 128, .inl (gA u0)))] sz) := by
  refine Met.ofW (cc := cX8_can) (maxL := 2) (ret := (some .boolean)) (by decide) rfl ?_
  intro p e s m args below meth c s₁ B9 hml hv
  obtain ⟨rfl, hsz, ⟨hP, hK, hD0⟩⟩ := hv
  have hx := B9.exec
  have hb := B9.bytes
  have hr := B9.returns
  have hts := atoms_spec (ws := wsX8_can) B9.pre
  have hown : s.vm.findClass RX8 = some m.cls := findClass_of_methodNamed B9.named
  have hlocks := B9.notSynchronized
  subst hsz
  have hD := hD0.self (sz := s.heap.size)
  generalize hAe : va_A [(mo, .inr (7, [.int (nI th), .int (nI by_), .ref abuf, .int (nI ks), .ref akey, .int (nI ts), .ref atwk, .int (nI rx), .int (nI mn), .ref arow, .ref abox, .ref awrd, .int (nI rd), .ref ablk, .ref amov, .int (nI za), .int (nI zb), .ref ahA, .ref ahB, .ref ahC, .ref anum, .ref amsg, .ref astr])), (ahC, .inl (cI, 64, .inl (gA c0))), (anum, .inl (cI, 128, .inl (gA u0)))] s.heap.size = A at hD ⊢
  have hA : ∀ q : Nat, s.heap.size ≤ q → A q := fun q h => by rw [← hAe]; exact Or.inr h
  have hS : va_S A s.heap s.heap [] := va_S.rf
  have hl := lv_entry ([.ref mo, .int (nI 0)]) (n := 2) (Nat.le_of_ble_eq_true rfl)
  rw [lg_entry_eq]
  generalize (lg_sl ([.ref mo, .int (nI 0)]) ++ List.replicate (2 - (lg_sl ([.ref mo, .int (nI 0)])).length) Slot.unset).toArray = ls at hl ⊢
  have hl : lv_has ls 2 [(0, .ref mo), (1, .int (nI 0))] := hl
  refine lv_aload_n hx hb dX8_can_0 rfl (lv_at hl 0 rfl) ?_
  refine lv_iconst (v := nI 0) hx hb dX8_can_1 (by decide) ?_
  refine gv_put (own := RX8) (D := (dC, dI)) (ci := 7) (C := RX8) (T := TX8) (N := 23) (ws' := [(mo, .inr (7, [.int (nI 0), .int (nI by_), .ref abuf, .int (nI ks), .ref akey, .int (nI ts), .ref atwk, .int (nI rx), .int (nI mn), .ref arow, .ref abox, .ref awrd, .int (nI rd), .ref ablk, .ref amov, .int (nI za), .int (nI zb), .ref ahA, .ref ahB, .ref ahC, .ref anum, .ref amsg, .ref astr])), (ahC, .inl (cI, 64, .inl (gA c0))), (anum, .inl (cI, 128, .inl (gA u0)))]) hx hb hts (by decide +kernel) tyX8 tyX8_ok nmX8 hown hK hP hD hS 0 rfl rfl 0 (by decide) (hts (.fieldLink RX8 63 "NumeralCipherModel" "thrown" "I") (by decide +kernel)) rfl rfl (by decide +kernel) (Nat.le_of_ble_eq_true rfl) rfl dX8_can_2 (fun H locs hP hD hS => ?_)
  refine lv_aload_n hx hb dX8_can_5 rfl (lv_at hl 0 rfl) ?_
  refine lv_iload_n hx hb dX8_can_6 rfl (lv_at hl 1 rfl) ?_
  refine lv_i2l (v := lN 0) hx hb dX8_can_7 (nI_l (by omega)) ?_
  refine lv_lconst (v := lN 0) hx hb dX8_can_8 (by decide) ?_
  refine lv_lconst (v := lN 1) hx hb dX8_can_9 (by decide) ?_
  refine gv_callR (W.runS (As := [.long (lN 0), .long (lN 0), .long (lN 1)]) (rest := [.ref mo]) ⟨hx, hb, hml, hown, hts⟩ (c_X8_in_1 l (lN 0) (lN 0) (lN 1) ((in_nat (v := 0) (a := 0) (b := 1) (by omega) (by omega) (by omega)).1) ((in_nat (v := 0) (a := 0) (b := 1) (by omega) (by omega) (by omega)).2)) (va_cwS 3 hts gX8_can_X8_in rfl rfl rfl (by decide +kernel) ⟨Nat.le_of_ble_eq_true rfl, Nat.le_of_ble_eq_true rfl⟩) ⟨fun a U g mk q => q, fun U hU hW => ⟨rfl, trivial⟩⟩ rfl rfl hl.1 rfl (lv_room (Nat.le_of_ble_eq_true rfl)) dX8_can_10 ⟨Nat.zero_le _, Nat.zero_le _⟩) ?_
  refine gv_if_ne (tgt := 20) hx hb dX8_can_13 (by decide) (by omega) (fun c_13 => ?_) (fun c_13 => ?_)
  ·
    refine lv_iconst (v := nI 0) hx hb dX8_can_20 (by decide) ?_
    refine lv_iconst (v := nI 1) hx hb dX8_can_21 (by decide) ?_
    have hPc := hP.sub (ws' := [(mo, .inr (7, [.int (nI 0), .int (nI by_), .ref abuf, .int (nI ks), .ref akey, .int (nI ts), .ref atwk, .int (nI rx), .int (nI mn), .ref arow, .ref abox, .ref awrd, .int (nI rd), .ref ablk, .ref amov, .int (nI za), .int (nI zb), .ref ahA, .ref ahB, .ref ahC, .ref anum, .ref amsg, .ref astr]))]) [0] rfl
    have hDc := hD.sub (ws' := [(mo, .inr (7, [.int (nI 0), .int (nI by_), .ref abuf, .int (nI ks), .ref akey, .int (nI ts), .ref atwk, .int (nI rx), .int (nI mn), .ref arow, .ref abox, .ref awrd, .int (nI rd), .ref ablk, .ref amov, .int (nI za), .int (nI zb), .ref ahA, .ref ahB, .ref ahC, .ref anum, .ref amsg, .ref astr]))]) [0] (by decide) rfl
    refine gv_callR (W.runV (As := [.int (nI 0), .int (nI 1)]) (rest := []) ⟨hx, hb, hml, hown, hts⟩ (c_X8_refuses_0 l dC dI cI H.size mo abuf akey atwk arow abox awrd ablk amov ahA ahB ahC anum amsg astr 0 by_ ks ts rx mn rd za zb 1 ) (cwV 2 hts gX8_can_X8_refuses rfl rfl rfl (by decide +kernel) ⟨Nat.le_of_ble_eq_true rfl, Nat.le_of_ble_eq_true rfl⟩) ⟨gPc_blind, va_recv hK hPc (ci := 7) (q0 := 0) rfl rfl, gPc_pre hPc hK hDc⟩ rfl rfl hl.1 rfl (lv_room (Nat.le_of_ble_eq_true rfl)) dX8_can_22 ⟨Nat.zero_le _, Nat.zero_le _⟩) ?_
    clear hPc hDc
    refine gv_if_ne (tgt := 40) hx hb dX8_can_25 (by decide) (by omega) (fun c_25 => ?_) (fun c_25 => ?_)
    ·
      exact absurd c_25 (by decide)
    ·
      refine lv_aload_n hx hb dX8_can_28 rfl (lv_at hl 0 rfl) ?_
      refine lv_iload_n hx hb dX8_can_29 rfl (lv_at hl 1 rfl) ?_
      have hPc := hP.sub (ws' := [(mo, .inr (7, [.int (nI 0), .int (nI by_), .ref abuf, .int (nI ks), .ref akey, .int (nI ts), .ref atwk, .int (nI rx), .int (nI mn), .ref arow, .ref abox, .ref awrd, .int (nI rd), .ref ablk, .ref amov, .int (nI za), .int (nI zb), .ref ahA, .ref ahB, .ref ahC, .ref anum, .ref amsg, .ref astr])), (ahC, .inl (cI, 64, .inl (gA c0))), (anum, .inl (cI, 128, .inl (gA u0)))]) [0, 1, 2] rfl
      have hDc := hD.sub (ws' := [(mo, .inr (7, [.int (nI 0), .int (nI by_), .ref abuf, .int (nI ks), .ref akey, .int (nI ts), .ref atwk, .int (nI rx), .int (nI mn), .ref arow, .ref abox, .ref awrd, .int (nI rd), .ref ablk, .ref amov, .int (nI za), .int (nI zb), .ref ahA, .ref ahB, .ref ahC, .ref anum, .ref amsg, .ref astr])), (ahC, .inl (cI, 64, .inl (gA c0))), (anum, .inl (cI, 128, .inl (gA u0)))]) [0, 1, 2] (by decide) rfl
      have hFc := va_free (wc := [(mo, .inr (7, [.int (nI 0), .int (nI by_), .ref abuf, .int (nI ks), .ref akey, .int (nI ts), .ref atwk, .int (nI rx), .int (nI mn), .ref arow, .ref abox, .ref awrd, .int (nI rd), .ref ablk, .ref amov, .int (nI za), .int (nI zb), .ref ahA, .ref ahB, .ref ahC, .ref anum, .ref amsg, .ref astr])), (ahC, .inl (cI, 64, .inl (gA c0))), (anum, .inl (cI, 128, .inl (gA u0)))]) hD hS hA [0, 1, 2] rfl
      refine va_calli (va_runV (As := [.int (nI 0)]) (rest := []) ⟨hx, hb, hml, hown, hts⟩ (c_X8_canTurn_0 l dC dI cI H.size mo abuf akey atwk arow abox awrd ablk amov ahA ahB ahC anum amsg astr 0 by_ ks ts rx mn rd za zb c0 u0 (by omega) (by omega) (by omega) (by omega)) (cwV 1 hts gX8_can_X8_canTurn rfl rfl rfl (by decide +kernel) ⟨Nat.le_of_ble_eq_true rfl, Nat.le_of_ble_eq_true rfl⟩) ⟨gPc_blind, va_recv hK hPc (ci := 7) (q0 := 0) rfl rfl, gPc_pre hPc hK hDc⟩ rfl rfl hl.1 rfl (lv_room (Nat.le_of_ble_eq_true rfl)) dX8_can_30 ⟨Nat.zero_le _, Nat.zero_le _⟩) hS (fun q _ h => hFc q h) hFc (fun r9 u8 t8 H1 locs ht hvm hw hB hz1 hk1 hS => ?_)
      obtain ⟨c9_1, u9_1⟩ := u8
      try dsimp only at hw hB
      obtain ⟨hP, hD⟩ := gB_join (wr := []) (w2 := [(mo, .inr (7, [.int (nI 0), .int (nI by_), .ref abuf, .int (nI ks), .ref akey, .int (nI ts), .ref atwk, .int (nI rx), .int (nI mn), .ref arow, .ref abox, .ref awrd, .int (nI rd), .ref ablk, .ref amov, .int (nI za), .int (nI zb), .ref ahA, .ref ahB, .ref ahC, .ref anum, .ref amsg, .ref astr])), (ahC, .inl (cI, 64, .inl (gA c9_1))), (anum, .inl (cI, 128, .inl (gA u9_1)))]) hP hD [0, 1, 2] [] rfl rfl (by decide) (by decide) hk1 hFc ht hB rfl
      clear hk1 hz1 ht hB hvm hPc hDc hFc
      generalize H1 = H at hP hS ⊢
      subst hw
      refine gv_if_eq (tgt := 40) hx hb dX8_can_33 (by decide) (by split <;> decide) (fun c_33 => ?_) (fun c_33 => ?_)
      ·
        have hq : ¬ (2 ≤ mn ∧ 1000000 ≤ rx ^ mn) := fun q9 => absurd ((if_pos q9).symm.trans c_33) (by decide)
        refine lv_iconst (v := nI 0) hx hb dX8_can_40 (by decide) ?_
        refine gv_top (y := nI (if 2 ≤ mn ∧ 1000000 ≤ rx ^ mn then 1 else 0)) (congrArg nI (if_neg hq).symm) ?_
        exact W.zret (v := (nI (if 2 ≤ mn ∧ 1000000 ≤ rx ^ mn then 1 else 0))) hx hb hr (by split <;> rfl) (fun t ht hW => ⟨⟨_, (c9_1, u9_1), rfl, rfl, gB_end ht hW hP hK hD⟩, hS.F ht⟩) hS.2.2 dX8_can_41
      ·
        have hq : 2 ≤ mn ∧ 1000000 ≤ rx ^ mn := Classical.byContradiction (fun q9 => c_33 (if_neg q9))
        refine lv_iconst (v := nI 1) hx hb dX8_can_36 (by decide) ?_
        refine gv_top (y := nI (if 2 ≤ mn ∧ 1000000 ≤ rx ^ mn then 1 else 0)) (congrArg nI (if_pos hq).symm) ?_
        refine lv_goto (tgt := 41) hx hb dX8_can_37 (by decide) ?_
        exact W.zret (v := (nI (if 2 ≤ mn ∧ 1000000 ≤ rx ^ mn then 1 else 0))) hx hb hr (by split <;> rfl) (fun t ht hW => ⟨⟨_, (c9_1, u9_1), rfl, rfl, gB_end ht hW hP hK hD⟩, hS.F ht⟩) hS.2.2 dX8_can_41
  ·
    exact absurd c_13 (by decide)

set_option maxHeartbeats 4000000 in
set_option maxRecDepth 100000 in
/-- can: 1 -/
theorem c_X8_can_1 (l : Launch) (dC : Nat → ClassId) (dI : Nat → Nat → Nat) (cI : ClassId) (sz : Nat) (mo : Nat) (abuf : Nat) (akey : Nat) (atwk : Nat) (arow : Nat) (abox : Nat) (awrd : Nat) (ablk : Nat) (amov : Nat) (ahA : Nat) (ahB : Nat) (ahC : Nat) (anum : Nat) (amsg : Nat) (astr : Nat) (th : Nat) (by_ : Nat) (ks : Nat) (ts : Nat) (rx : Nat) (mn : Nat) (rd : Nat) (za : Nat) (zb : Nat) (c0 : Nat → Nat) (u0 : Nat → Nat) (hr1 : 2 ≤ rx) (hr2 : rx ≤ 65536) (hm2 : mn ≤ 64) (hts7 : ts ≤ 64) : Met l yX8_can wsX8_can ({ frames := 3, cells := 0, slots := 0, locals := 75 }) (gPc dC dI cI [.ref mo, .int (nI 1)] [(mo, .inr (7, [.int (nI th), .int (nI by_), .ref abuf, .int (nI ks), .ref akey, .int (nI ts), .ref atwk, .int (nI rx), .int (nI mn), .ref arow, .ref abox, .ref awrd, .int (nI rd), .ref ablk, .ref amov, .int (nI za), .int (nI zb), .ref ahA, .ref ahB, .ref ahC, .ref anum, .ref amsg, .ref astr])), (ahC, .inl (cI, 64, .inl (gA c0))), (anum, .inl (cI, 128, .inl (gA u0)))] sz) (va_Qi (fun (r : Int32) (u : (Nat → Nat) × (Nat → Nat)) => r = (nI (if (2 ≤ mn ∧ 1000000 ≤ rx ^ mn) ∧ (ts = 7 ∧ bl (rx ^ (mn - mn / 2) - 1) ≤ 12) then 1 else 0))) (fun u t => gB dC dI cI (va_A [(mo, .inr (7, [.int (nI th), .int (nI by_), .ref abuf, .int (nI ks), .ref akey, .int (nI ts), .ref atwk, .int (nI rx), .int (nI mn), .ref arow, .ref abox, .ref awrd, .int (nI rd), .ref ablk, .ref amov, .int (nI za), .int (nI zb), .ref ahA, .ref ahB, .ref ahC, .ref anum, .ref amsg, .ref astr])), (ahC, .inl (cI, 64, .inl (gA c0))), (anum, .inl (cI, 128, .inl (gA u0)))] sz) [(mo, .inr (7, [.int (nI 0), .int (nI by_), .ref abuf, .int (nI ks), .ref akey, .int (nI ts), .ref atwk, .int (nI rx), .int (nI mn), .ref arow, .ref abox, .ref awrd, .int (nI rd), .ref ablk, .ref amov, .int (nI za), .int (nI zb), .ref ahA, .ref ahB, .ref ahC, .ref anum, .ref amsg, .ref astr])), (ahC, .inl (cI, 64, .inl (gA u.1))), (anum, .inl (cI, 128, .inl (gA u.2)))] t) (va_A [(mo, .inr (7, [.int (nI th), .int (nI by_), .ref abuf, .int (nI ks), .ref akey, .int (nI ts), .ref atwk, .int (nI rx), .int (nI mn), .ref arow, .ref abox, .ref awrd, .int (nI rd), .ref ablk, .ref amov, .int (nI za), .int (nI zb), .ref ahA, .ref ahB, .ref ahC, .ref anum, .ref amsg, .ref astr])), (ahC, .inl (cI, 64, .inl (gA c0))), (anum, .inl (cI, 128, .inl (gA u0)))] sz)) 0 0 (va_A [(mo, .inr (7, [.int (nI th), .int (nI by_), .ref abuf, .int (nI ks), .ref akey, .int (nI ts), .ref atwk, .int (nI rx), .int (nI mn), .ref arow, .ref abox, .ref awrd, .int (nI rd), .ref ablk, .ref amov, .int (nI za), .int (nI zb), .ref ahA, .ref ahB, .ref ahC, .ref anum, .ref amsg, .ref astr])), (ahC, .inl (cI, 64, .inl (gA c0))), (anum, .inl (cI, 128, .inl (gA u0)))] sz) := by
  refine Met.ofW (cc := cX8_can) (maxL := 2) (ret := (some .boolean)) (by decide) rfl ?_
  intro p e s m args below meth c s₁ B9 hml hv
  obtain ⟨rfl, hsz, ⟨hP, hK, hD0⟩⟩ := hv
  have hx := B9.exec
  have hb := B9.bytes
  have hr := B9.returns
  have hts := atoms_spec (ws := wsX8_can) B9.pre
  have hown : s.vm.findClass RX8 = some m.cls := findClass_of_methodNamed B9.named
  have hlocks := B9.notSynchronized
  subst hsz
  have hD := hD0.self (sz := s.heap.size)
  generalize hAe : va_A [(mo, .inr (7, [.int (nI th), .int (nI by_), .ref abuf, .int (nI ks), .ref akey, .int (nI ts), .ref atwk, .int (nI rx), .int (nI mn), .ref arow, .ref abox, .ref awrd, .int (nI rd), .ref ablk, .ref amov, .int (nI za), .int (nI zb), .ref ahA, .ref ahB, .ref ahC, .ref anum, .ref amsg, .ref astr])), (ahC, .inl (cI, 64, .inl (gA c0))), (anum, .inl (cI, 128, .inl (gA u0)))] s.heap.size = A at hD ⊢
  have hA : ∀ q : Nat, s.heap.size ≤ q → A q := fun q h => by rw [← hAe]; exact Or.inr h
  have hS : va_S A s.heap s.heap [] := va_S.rf
  have hl := lv_entry ([.ref mo, .int (nI 1)]) (n := 2) (Nat.le_of_ble_eq_true rfl)
  rw [lg_entry_eq]
  generalize (lg_sl ([.ref mo, .int (nI 1)]) ++ List.replicate (2 - (lg_sl ([.ref mo, .int (nI 1)])).length) Slot.unset).toArray = ls at hl ⊢
  have hl : lv_has ls 2 [(0, .ref mo), (1, .int (nI 1))] := hl
  refine lv_aload_n hx hb dX8_can_0 rfl (lv_at hl 0 rfl) ?_
  refine lv_iconst (v := nI 0) hx hb dX8_can_1 (by decide) ?_
  refine gv_put (own := RX8) (D := (dC, dI)) (ci := 7) (C := RX8) (T := TX8) (N := 23) (ws' := [(mo, .inr (7, [.int (nI 0), .int (nI by_), .ref abuf, .int (nI ks), .ref akey, .int (nI ts), .ref atwk, .int (nI rx), .int (nI mn), .ref arow, .ref abox, .ref awrd, .int (nI rd), .ref ablk, .ref amov, .int (nI za), .int (nI zb), .ref ahA, .ref ahB, .ref ahC, .ref anum, .ref amsg, .ref astr])), (ahC, .inl (cI, 64, .inl (gA c0))), (anum, .inl (cI, 128, .inl (gA u0)))]) hx hb hts (by decide +kernel) tyX8 tyX8_ok nmX8 hown hK hP hD hS 0 rfl rfl 0 (by decide) (hts (.fieldLink RX8 63 "NumeralCipherModel" "thrown" "I") (by decide +kernel)) rfl rfl (by decide +kernel) (Nat.le_of_ble_eq_true rfl) rfl dX8_can_2 (fun H locs hP hD hS => ?_)
  refine lv_aload_n hx hb dX8_can_5 rfl (lv_at hl 0 rfl) ?_
  refine lv_iload_n hx hb dX8_can_6 rfl (lv_at hl 1 rfl) ?_
  refine lv_i2l (v := lN 1) hx hb dX8_can_7 (nI_l (by omega)) ?_
  refine lv_lconst (v := lN 0) hx hb dX8_can_8 (by decide) ?_
  refine lv_lconst (v := lN 1) hx hb dX8_can_9 (by decide) ?_
  refine gv_callR (W.runS (As := [.long (lN 1), .long (lN 0), .long (lN 1)]) (rest := [.ref mo]) ⟨hx, hb, hml, hown, hts⟩ (c_X8_in_1 l (lN 1) (lN 0) (lN 1) ((in_nat (v := 1) (a := 0) (b := 1) (by omega) (by omega) (by omega)).1) ((in_nat (v := 1) (a := 0) (b := 1) (by omega) (by omega) (by omega)).2)) (va_cwS 3 hts gX8_can_X8_in rfl rfl rfl (by decide +kernel) ⟨Nat.le_of_ble_eq_true rfl, Nat.le_of_ble_eq_true rfl⟩) ⟨fun a U g mk q => q, fun U hU hW => ⟨rfl, trivial⟩⟩ rfl rfl hl.1 rfl (lv_room (Nat.le_of_ble_eq_true rfl)) dX8_can_10 ⟨Nat.zero_le _, Nat.zero_le _⟩) ?_
  refine gv_if_ne (tgt := 20) hx hb dX8_can_13 (by decide) (by omega) (fun c_13 => ?_) (fun c_13 => ?_)
  ·
    refine lv_iconst (v := nI 0) hx hb dX8_can_20 (by decide) ?_
    refine lv_iconst (v := nI 1) hx hb dX8_can_21 (by decide) ?_
    have hPc := hP.sub (ws' := [(mo, .inr (7, [.int (nI 0), .int (nI by_), .ref abuf, .int (nI ks), .ref akey, .int (nI ts), .ref atwk, .int (nI rx), .int (nI mn), .ref arow, .ref abox, .ref awrd, .int (nI rd), .ref ablk, .ref amov, .int (nI za), .int (nI zb), .ref ahA, .ref ahB, .ref ahC, .ref anum, .ref amsg, .ref astr]))]) [0] rfl
    have hDc := hD.sub (ws' := [(mo, .inr (7, [.int (nI 0), .int (nI by_), .ref abuf, .int (nI ks), .ref akey, .int (nI ts), .ref atwk, .int (nI rx), .int (nI mn), .ref arow, .ref abox, .ref awrd, .int (nI rd), .ref ablk, .ref amov, .int (nI za), .int (nI zb), .ref ahA, .ref ahB, .ref ahC, .ref anum, .ref amsg, .ref astr]))]) [0] (by decide) rfl
    refine gv_callR (W.runV (As := [.int (nI 0), .int (nI 1)]) (rest := []) ⟨hx, hb, hml, hown, hts⟩ (c_X8_refuses_0 l dC dI cI H.size mo abuf akey atwk arow abox awrd ablk amov ahA ahB ahC anum amsg astr 0 by_ ks ts rx mn rd za zb 1 ) (cwV 2 hts gX8_can_X8_refuses rfl rfl rfl (by decide +kernel) ⟨Nat.le_of_ble_eq_true rfl, Nat.le_of_ble_eq_true rfl⟩) ⟨gPc_blind, va_recv hK hPc (ci := 7) (q0 := 0) rfl rfl, gPc_pre hPc hK hDc⟩ rfl rfl hl.1 rfl (lv_room (Nat.le_of_ble_eq_true rfl)) dX8_can_22 ⟨Nat.zero_le _, Nat.zero_le _⟩) ?_
    clear hPc hDc
    refine gv_if_ne (tgt := 40) hx hb dX8_can_25 (by decide) (by omega) (fun c_25 => ?_) (fun c_25 => ?_)
    ·
      exact absurd c_25 (by decide)
    ·
      refine lv_aload_n hx hb dX8_can_28 rfl (lv_at hl 0 rfl) ?_
      refine lv_iload_n hx hb dX8_can_29 rfl (lv_at hl 1 rfl) ?_
      have hPc := hP.sub (ws' := [(mo, .inr (7, [.int (nI 0), .int (nI by_), .ref abuf, .int (nI ks), .ref akey, .int (nI ts), .ref atwk, .int (nI rx), .int (nI mn), .ref arow, .ref abox, .ref awrd, .int (nI rd), .ref ablk, .ref amov, .int (nI za), .int (nI zb), .ref ahA, .ref ahB, .ref ahC, .ref anum, .ref amsg, .ref astr])), (ahC, .inl (cI, 64, .inl (gA c0))), (anum, .inl (cI, 128, .inl (gA u0)))]) [0, 1, 2] rfl
      have hDc := hD.sub (ws' := [(mo, .inr (7, [.int (nI 0), .int (nI by_), .ref abuf, .int (nI ks), .ref akey, .int (nI ts), .ref atwk, .int (nI rx), .int (nI mn), .ref arow, .ref abox, .ref awrd, .int (nI rd), .ref ablk, .ref amov, .int (nI za), .int (nI zb), .ref ahA, .ref ahB, .ref ahC, .ref anum, .ref amsg, .ref astr])), (ahC, .inl (cI, 64, .inl (gA c0))), (anum, .inl (cI, 128, .inl (gA u0)))]) [0, 1, 2] (by decide) rfl
      have hFc := va_free (wc := [(mo, .inr (7, [.int (nI 0), .int (nI by_), .ref abuf, .int (nI ks), .ref akey, .int (nI ts), .ref atwk, .int (nI rx), .int (nI mn), .ref arow, .ref abox, .ref awrd, .int (nI rd), .ref ablk, .ref amov, .int (nI za), .int (nI zb), .ref ahA, .ref ahB, .ref ahC, .ref anum, .ref amsg, .ref astr])), (ahC, .inl (cI, 64, .inl (gA c0))), (anum, .inl (cI, 128, .inl (gA u0)))]) hD hS hA [0, 1, 2] rfl
      refine va_calli (va_runV (As := [.int (nI 1)]) (rest := []) ⟨hx, hb, hml, hown, hts⟩ (c_X8_canTurn_1 l dC dI cI H.size mo abuf akey atwk arow abox awrd ablk amov ahA ahB ahC anum amsg astr 0 by_ ks ts rx mn rd za zb c0 u0 (by omega) (by omega) (by omega) (by omega)) (cwV 1 hts gX8_can_X8_canTurn rfl rfl rfl (by decide +kernel) ⟨Nat.le_of_ble_eq_true rfl, Nat.le_of_ble_eq_true rfl⟩) ⟨gPc_blind, va_recv hK hPc (ci := 7) (q0 := 0) rfl rfl, gPc_pre hPc hK hDc⟩ rfl rfl hl.1 rfl (lv_room (Nat.le_of_ble_eq_true rfl)) dX8_can_30 ⟨Nat.zero_le _, Nat.zero_le _⟩) hS (fun q _ h => hFc q h) hFc (fun r9 u8 t8 H1 locs ht hvm hw hB hz1 hk1 hS => ?_)
      obtain ⟨c9_1, u9_1⟩ := u8
      try dsimp only at hw hB
      obtain ⟨hP, hD⟩ := gB_join (wr := []) (w2 := [(mo, .inr (7, [.int (nI 0), .int (nI by_), .ref abuf, .int (nI ks), .ref akey, .int (nI ts), .ref atwk, .int (nI rx), .int (nI mn), .ref arow, .ref abox, .ref awrd, .int (nI rd), .ref ablk, .ref amov, .int (nI za), .int (nI zb), .ref ahA, .ref ahB, .ref ahC, .ref anum, .ref amsg, .ref astr])), (ahC, .inl (cI, 64, .inl (gA c9_1))), (anum, .inl (cI, 128, .inl (gA u9_1)))]) hP hD [0, 1, 2] [] rfl rfl (by decide) (by decide) hk1 hFc ht hB rfl
      clear hk1 hz1 ht hB hvm hPc hDc hFc
      generalize H1 = H at hP hS ⊢
      subst hw
      refine gv_if_eq (tgt := 40) hx hb dX8_can_33 (by decide) (by split <;> decide) (fun c_33 => ?_) (fun c_33 => ?_)
      ·
        have hq : ¬ ((2 ≤ mn ∧ 1000000 ≤ rx ^ mn) ∧ (ts = 7 ∧ bl (rx ^ (mn - mn / 2) - 1) ≤ 12)) := fun q9 => absurd ((if_pos q9).symm.trans c_33) (by decide)
        refine lv_iconst (v := nI 0) hx hb dX8_can_40 (by decide) ?_
        refine gv_top (y := nI (if (2 ≤ mn ∧ 1000000 ≤ rx ^ mn) ∧ (ts = 7 ∧ bl (rx ^ (mn - mn / 2) - 1) ≤ 12) then 1 else 0)) (congrArg nI (if_neg hq).symm) ?_
        exact W.zret (v := (nI (if (2 ≤ mn ∧ 1000000 ≤ rx ^ mn) ∧ (ts = 7 ∧ bl (rx ^ (mn - mn / 2) - 1) ≤ 12) then 1 else 0))) hx hb hr (by split <;> rfl) (fun t ht hW => ⟨⟨_, (c9_1, u9_1), rfl, rfl, gB_end ht hW hP hK hD⟩, hS.F ht⟩) hS.2.2 dX8_can_41
      ·
        have hq : (2 ≤ mn ∧ 1000000 ≤ rx ^ mn) ∧ (ts = 7 ∧ bl (rx ^ (mn - mn / 2) - 1) ≤ 12) := Classical.byContradiction (fun q9 => c_33 (if_neg q9))
        refine lv_iconst (v := nI 1) hx hb dX8_can_36 (by decide) ?_
        refine gv_top (y := nI (if (2 ≤ mn ∧ 1000000 ≤ rx ^ mn) ∧ (ts = 7 ∧ bl (rx ^ (mn - mn / 2) - 1) ≤ 12) then 1 else 0)) (congrArg nI (if_pos hq).symm) ?_
        refine lv_goto (tgt := 41) hx hb dX8_can_37 (by decide) ?_
        exact W.zret (v := (nI (if (2 ≤ mn ∧ 1000000 ≤ rx ^ mn) ∧ (ts = 7 ∧ bl (rx ^ (mn - mn / 2) - 1) ≤ 12) then 1 else 0))) hx hb hr (by split <;> rfl) (fun t ht hW => ⟨⟨_, (c9_1, u9_1), rfl, rfl, gB_end ht hW hP hK hD⟩, hS.F ht⟩) hS.2.2 dX8_can_41
  ·
    exact absurd c_13 (by decide)

set_option maxHeartbeats 4000000 in
set_option maxRecDepth 100000 in
/-- can: b1 -/
theorem c_X8_can_b1 (l : Launch) (dC : Nat → ClassId) (dI : Nat → Nat → Nat) (cI : ClassId) (sz : Nat) (mo : Nat) (abuf : Nat) (akey : Nat) (atwk : Nat) (arow : Nat) (abox : Nat) (awrd : Nat) (ablk : Nat) (amov : Nat) (ahA : Nat) (ahB : Nat) (ahC : Nat) (anum : Nat) (amsg : Nat) (astr : Nat) (th : Nat) (by_ : Nat) (ks : Nat) (ts : Nat) (rx : Nat) (mn : Nat) (rd : Nat) (za : Nat) (zb : Nat) (x : Int32) (hbad : x.toInt < 0 ∨ 1 < x.toInt) : Met l yX8_can wsX8_can ({ frames := 1, cells := 0, slots := 0, locals := 25 }) (gPc dC dI cI [.ref mo, .int x] [(mo, .inr (7, [.int (nI th), .int (nI by_), .ref abuf, .int (nI ks), .ref akey, .int (nI ts), .ref atwk, .int (nI rx), .int (nI mn), .ref arow, .ref abox, .ref awrd, .int (nI rd), .ref ablk, .ref amov, .int (nI za), .int (nI zb), .ref ahA, .ref ahB, .ref ahC, .ref anum, .ref amsg, .ref astr]))] sz) (va_Qi (fun (r : Int32) (_u : Unit) => r = (nI 0)) (fun _u t => gB dC dI cI (va_A [(mo, .inr (7, [.int (nI th), .int (nI by_), .ref abuf, .int (nI ks), .ref akey, .int (nI ts), .ref atwk, .int (nI rx), .int (nI mn), .ref arow, .ref abox, .ref awrd, .int (nI rd), .ref ablk, .ref amov, .int (nI za), .int (nI zb), .ref ahA, .ref ahB, .ref ahC, .ref anum, .ref amsg, .ref astr]))] sz) [(mo, .inr (7, [.int (nI 1), .int (nI by_), .ref abuf, .int (nI ks), .ref akey, .int (nI ts), .ref atwk, .int (nI rx), .int (nI mn), .ref arow, .ref abox, .ref awrd, .int (nI rd), .ref ablk, .ref amov, .int (nI za), .int (nI zb), .ref ahA, .ref ahB, .ref ahC, .ref anum, .ref amsg, .ref astr]))] t) (va_A [(mo, .inr (7, [.int (nI th), .int (nI by_), .ref abuf, .int (nI ks), .ref akey, .int (nI ts), .ref atwk, .int (nI rx), .int (nI mn), .ref arow, .ref abox, .ref awrd, .int (nI rd), .ref ablk, .ref amov, .int (nI za), .int (nI zb), .ref ahA, .ref ahB, .ref ahC, .ref anum, .ref amsg, .ref astr]))] sz)) 0 0 (va_A [(mo, .inr (7, [.int (nI th), .int (nI by_), .ref abuf, .int (nI ks), .ref akey, .int (nI ts), .ref atwk, .int (nI rx), .int (nI mn), .ref arow, .ref abox, .ref awrd, .int (nI rd), .ref ablk, .ref amov, .int (nI za), .int (nI zb), .ref ahA, .ref ahB, .ref ahC, .ref anum, .ref amsg, .ref astr]))] sz) := by
  refine Met.ofW (cc := cX8_can) (maxL := 2) (ret := (some .boolean)) (by decide) rfl ?_
  intro p e s m args below meth c s₁ B9 hml hv
  obtain ⟨rfl, hsz, ⟨hP, hK, hD0⟩⟩ := hv
  have hx := B9.exec
  have hb := B9.bytes
  have hr := B9.returns
  have hts := atoms_spec (ws := wsX8_can) B9.pre
  have hown : s.vm.findClass RX8 = some m.cls := findClass_of_methodNamed B9.named
  have hlocks := B9.notSynchronized
  subst hsz
  have hD := hD0.self (sz := s.heap.size)
  generalize hAe : va_A [(mo, .inr (7, [.int (nI th), .int (nI by_), .ref abuf, .int (nI ks), .ref akey, .int (nI ts), .ref atwk, .int (nI rx), .int (nI mn), .ref arow, .ref abox, .ref awrd, .int (nI rd), .ref ablk, .ref amov, .int (nI za), .int (nI zb), .ref ahA, .ref ahB, .ref ahC, .ref anum, .ref amsg, .ref astr]))] s.heap.size = A at hD ⊢
  have hA : ∀ q : Nat, s.heap.size ≤ q → A q := fun q h => by rw [← hAe]; exact Or.inr h
  have hS : va_S A s.heap s.heap [] := va_S.rf
  have hl := lv_entry ([.ref mo, .int x]) (n := 2) (Nat.le_of_ble_eq_true rfl)
  rw [lg_entry_eq]
  generalize (lg_sl ([.ref mo, .int x]) ++ List.replicate (2 - (lg_sl ([.ref mo, .int x])).length) Slot.unset).toArray = ls at hl ⊢
  have hl : lv_has ls 2 [(0, .ref mo), (1, .int x)] := hl
  refine lv_aload_n hx hb dX8_can_0 rfl (lv_at hl 0 rfl) ?_
  refine lv_iconst (v := nI 0) hx hb dX8_can_1 (by decide) ?_
  refine gv_put (own := RX8) (D := (dC, dI)) (ci := 7) (C := RX8) (T := TX8) (N := 23) (ws' := [(mo, .inr (7, [.int (nI 0), .int (nI by_), .ref abuf, .int (nI ks), .ref akey, .int (nI ts), .ref atwk, .int (nI rx), .int (nI mn), .ref arow, .ref abox, .ref awrd, .int (nI rd), .ref ablk, .ref amov, .int (nI za), .int (nI zb), .ref ahA, .ref ahB, .ref ahC, .ref anum, .ref amsg, .ref astr]))]) hx hb hts (by decide +kernel) tyX8 tyX8_ok nmX8 hown hK hP hD hS 0 rfl rfl 0 (by decide) (hts (.fieldLink RX8 63 "NumeralCipherModel" "thrown" "I") (by decide +kernel)) rfl rfl (by decide +kernel) (Nat.le_of_ble_eq_true rfl) rfl dX8_can_2 (fun H locs hP hD hS => ?_)
  refine lv_aload_n hx hb dX8_can_5 rfl (lv_at hl 0 rfl) ?_
  refine lv_iload_n hx hb dX8_can_6 rfl (lv_at hl 1 rfl) ?_
  refine lv_i2l (v := x.toInt64) hx hb dX8_can_7 rfl ?_
  refine lv_lconst (v := lN 0) hx hb dX8_can_8 (by decide) ?_
  refine lv_lconst (v := lN 1) hx hb dX8_can_9 (by decide) ?_
  refine gv_callR (W.runS (As := [.long x.toInt64, .long (lN 0), .long (lN 1)]) (rest := [.ref mo]) ⟨hx, hb, hml, hown, hts⟩ (c_X8_in_0 l x.toInt64 (lN 0) (lN 1) (in_raw (pk_lT (by decide)) (pk_lT (by decide)) (by omega))) (va_cwS 3 hts gX8_can_X8_in rfl rfl rfl (by decide +kernel) ⟨Nat.le_of_ble_eq_true rfl, Nat.le_of_ble_eq_true rfl⟩) ⟨fun a U g mk q => q, fun U hU hW => ⟨rfl, trivial⟩⟩ rfl rfl hl.1 rfl (lv_room (Nat.le_of_ble_eq_true rfl)) dX8_can_10 ⟨Nat.zero_le _, Nat.zero_le _⟩) ?_
  refine gv_if_ne (tgt := 20) hx hb dX8_can_13 (by decide) (by omega) (fun c_13 => ?_) (fun c_13 => ?_)
  ·
    exact absurd c_13 (by decide)
  ·
    refine lv_iconst (v := nI 1) hx hb dX8_can_16 (by decide) ?_
    refine lv_goto (tgt := 21) hx hb dX8_can_17 (by decide) ?_
    refine lv_iconst (v := nI 1) hx hb dX8_can_21 (by decide) ?_
    have hPc := hP.sub (ws' := [(mo, .inr (7, [.int (nI 0), .int (nI by_), .ref abuf, .int (nI ks), .ref akey, .int (nI ts), .ref atwk, .int (nI rx), .int (nI mn), .ref arow, .ref abox, .ref awrd, .int (nI rd), .ref ablk, .ref amov, .int (nI za), .int (nI zb), .ref ahA, .ref ahB, .ref ahC, .ref anum, .ref amsg, .ref astr]))]) [0] rfl
    have hDc := hD.sub (ws' := [(mo, .inr (7, [.int (nI 0), .int (nI by_), .ref abuf, .int (nI ks), .ref akey, .int (nI ts), .ref atwk, .int (nI rx), .int (nI mn), .ref arow, .ref abox, .ref awrd, .int (nI rd), .ref ablk, .ref amov, .int (nI za), .int (nI zb), .ref ahA, .ref ahB, .ref ahC, .ref anum, .ref amsg, .ref astr]))]) [0] (by decide) rfl
    have hFc := va_free (wc := [(mo, .inr (7, [.int (nI 0), .int (nI by_), .ref abuf, .int (nI ks), .ref akey, .int (nI ts), .ref atwk, .int (nI rx), .int (nI mn), .ref arow, .ref abox, .ref awrd, .int (nI rd), .ref ablk, .ref amov, .int (nI za), .int (nI zb), .ref ahA, .ref ahB, .ref ahC, .ref anum, .ref amsg, .ref astr]))]) hD hS hA [0] rfl
    refine va_calli (va_runV (As := [.int (nI 1), .int (nI 1)]) (rest := []) ⟨hx, hb, hml, hown, hts⟩ (c_X8_refuses_1 l dC dI cI H.size mo abuf akey atwk arow abox awrd ablk amov ahA ahB ahC anum amsg astr 0 by_ ks ts rx mn rd za zb 1 (by omega) (by omega)) (cwV 2 hts gX8_can_X8_refuses rfl rfl rfl (by decide +kernel) ⟨Nat.le_of_ble_eq_true rfl, Nat.le_of_ble_eq_true rfl⟩) ⟨gPc_blind, va_recv hK hPc (ci := 7) (q0 := 0) rfl rfl, gPc_pre hPc hK hDc⟩ rfl rfl hl.1 rfl (lv_room (Nat.le_of_ble_eq_true rfl)) dX8_can_22 ⟨Nat.zero_le _, Nat.zero_le _⟩) hS (fun q _ h => hFc q h) hFc (fun r9 u8 t8 H1 locs ht hvm hw hB hz1 hk1 hS => ?_)
    try dsimp only at hw hB
    obtain ⟨hP, hD⟩ := gB_join (wr := []) (w2 := [(mo, .inr (7, [.int (nI 1), .int (nI by_), .ref abuf, .int (nI ks), .ref akey, .int (nI ts), .ref atwk, .int (nI rx), .int (nI mn), .ref arow, .ref abox, .ref awrd, .int (nI rd), .ref ablk, .ref amov, .int (nI za), .int (nI zb), .ref ahA, .ref ahB, .ref ahC, .ref anum, .ref amsg, .ref astr]))]) hP hD [0] [] rfl rfl (by decide) (by decide) hk1 hFc ht hB rfl
    clear hk1 hz1 ht hB hvm hPc hDc hFc
    generalize H1 = H at hP hS ⊢
    subst hw
    refine gv_if_ne (tgt := 40) hx hb dX8_can_25 (by decide) (by omega) (fun c_25 => ?_) (fun c_25 => ?_)
    ·
      refine lv_iconst (v := nI 0) hx hb dX8_can_40 (by decide) ?_
      exact W.zret (v := (nI 0)) hx hb hr rfl (fun t ht hW => ⟨⟨_, (), rfl, rfl, gB_end ht hW hP hK hD⟩, hS.F ht⟩) hS.2.2 dX8_can_41
    ·
      exact absurd c_25 (by decide)

set_option maxHeartbeats 4000000 in
set_option maxRecDepth 100000 in
/-- turn: b1 -/
theorem c_X8_turn_b1 (l : Launch) (dC : Nat → ClassId) (dI : Nat → Nat → Nat) (cI : ClassId) (sz : Nat) (mo : Nat) (abuf : Nat) (akey : Nat) (atwk : Nat) (arow : Nat) (abox : Nat) (awrd : Nat) (ablk : Nat) (amov : Nat) (ahA : Nat) (ahB : Nat) (ahC : Nat) (anum : Nat) (amsg : Nat) (astr : Nat) (th : Nat) (by_ : Nat) (ks : Nat) (ts : Nat) (rx : Nat) (mn : Nat) (rd : Nat) (za : Nat) (zb : Nat) (x : Int32) (x2 : Int32) (hbad : x.toInt < 0 ∨ 1 < x.toInt) : Met l yX8_turn wsX8_turn ({ frames := 1, cells := 0, slots := 0, locals := 25 }) (gPc dC dI cI [.ref mo, .int x, .int x2] [(mo, .inr (7, [.int (nI th), .int (nI by_), .ref abuf, .int (nI ks), .ref akey, .int (nI ts), .ref atwk, .int (nI rx), .int (nI mn), .ref arow, .ref abox, .ref awrd, .int (nI rd), .ref ablk, .ref amov, .int (nI za), .int (nI zb), .ref ahA, .ref ahB, .ref ahC, .ref anum, .ref amsg, .ref astr]))] sz) (va_Qv (fun _u : Unit => True) (fun _u t => gB dC dI cI (va_A [(mo, .inr (7, [.int (nI th), .int (nI by_), .ref abuf, .int (nI ks), .ref akey, .int (nI ts), .ref atwk, .int (nI rx), .int (nI mn), .ref arow, .ref abox, .ref awrd, .int (nI rd), .ref ablk, .ref amov, .int (nI za), .int (nI zb), .ref ahA, .ref ahB, .ref ahC, .ref anum, .ref amsg, .ref astr]))] sz) [(mo, .inr (7, [.int (nI 1), .int (nI by_), .ref abuf, .int (nI ks), .ref akey, .int (nI ts), .ref atwk, .int (nI rx), .int (nI mn), .ref arow, .ref abox, .ref awrd, .int (nI rd), .ref ablk, .ref amov, .int (nI za), .int (nI zb), .ref ahA, .ref ahB, .ref ahC, .ref anum, .ref amsg, .ref astr]))] t) (va_A [(mo, .inr (7, [.int (nI th), .int (nI by_), .ref abuf, .int (nI ks), .ref akey, .int (nI ts), .ref atwk, .int (nI rx), .int (nI mn), .ref arow, .ref abox, .ref awrd, .int (nI rd), .ref ablk, .ref amov, .int (nI za), .int (nI zb), .ref ahA, .ref ahB, .ref ahC, .ref anum, .ref amsg, .ref astr]))] sz)) 0 0 (va_A [(mo, .inr (7, [.int (nI th), .int (nI by_), .ref abuf, .int (nI ks), .ref akey, .int (nI ts), .ref atwk, .int (nI rx), .int (nI mn), .ref arow, .ref abox, .ref awrd, .int (nI rd), .ref ablk, .ref amov, .int (nI za), .int (nI zb), .ref ahA, .ref ahB, .ref ahC, .ref anum, .ref amsg, .ref astr]))] sz) := by
  refine Met.ofW (cc := cX8_turn) (maxL := 3) (ret := none) (by decide) rfl ?_
  intro p e s m args below meth c s₁ B9 hml hv
  obtain ⟨rfl, hsz, ⟨hP, hK, hD0⟩⟩ := hv
  have hx := B9.exec
  have hb := B9.bytes
  have hr := B9.returns
  have hts := atoms_spec (ws := wsX8_turn) B9.pre
  have hown : s.vm.findClass RX8 = some m.cls := findClass_of_methodNamed B9.named
  have hlocks := B9.notSynchronized
  subst hsz
  have hD := hD0.self (sz := s.heap.size)
  generalize hAe : va_A [(mo, .inr (7, [.int (nI th), .int (nI by_), .ref abuf, .int (nI ks), .ref akey, .int (nI ts), .ref atwk, .int (nI rx), .int (nI mn), .ref arow, .ref abox, .ref awrd, .int (nI rd), .ref ablk, .ref amov, .int (nI za), .int (nI zb), .ref ahA, .ref ahB, .ref ahC, .ref anum, .ref amsg, .ref astr]))] s.heap.size = A at hD ⊢
  have hA : ∀ q : Nat, s.heap.size ≤ q → A q := fun q h => by rw [← hAe]; exact Or.inr h
  have hS : va_S A s.heap s.heap [] := va_S.rf
  have hl := lv_entry ([.ref mo, .int x, .int x2]) (n := 3) (Nat.le_of_ble_eq_true rfl)
  rw [lg_entry_eq]
  generalize (lg_sl ([.ref mo, .int x, .int x2]) ++ List.replicate (3 - (lg_sl ([.ref mo, .int x, .int x2])).length) Slot.unset).toArray = ls at hl ⊢
  have hl : lv_has ls 3 [(0, .ref mo), (1, .int x), (2, .int x2)] := hl
  refine lv_aload_n hx hb dX8_turn_0 rfl (lv_at hl 0 rfl) ?_
  refine lv_iconst (v := nI 0) hx hb dX8_turn_1 (by decide) ?_
  refine gv_put (own := RX8) (D := (dC, dI)) (ci := 7) (C := RX8) (T := TX8) (N := 23) (ws' := [(mo, .inr (7, [.int (nI 0), .int (nI by_), .ref abuf, .int (nI ks), .ref akey, .int (nI ts), .ref atwk, .int (nI rx), .int (nI mn), .ref arow, .ref abox, .ref awrd, .int (nI rd), .ref ablk, .ref amov, .int (nI za), .int (nI zb), .ref ahA, .ref ahB, .ref ahC, .ref anum, .ref amsg, .ref astr]))]) hx hb hts (by decide +kernel) tyX8 tyX8_ok nmX8 hown hK hP hD hS 0 rfl rfl 0 (by decide) (hts (.fieldLink RX8 63 "NumeralCipherModel" "thrown" "I") (by decide +kernel)) rfl rfl (by decide +kernel) (Nat.le_of_ble_eq_true rfl) rfl dX8_turn_2 (fun H locs hP hD hS => ?_)
  refine lv_aload_n hx hb dX8_turn_5 rfl (lv_at hl 0 rfl) ?_
  refine lv_iload_n hx hb dX8_turn_6 rfl (lv_at hl 1 rfl) ?_
  refine lv_i2l (v := x.toInt64) hx hb dX8_turn_7 rfl ?_
  refine lv_lconst (v := lN 0) hx hb dX8_turn_8 (by decide) ?_
  refine lv_lconst (v := lN 1) hx hb dX8_turn_9 (by decide) ?_
  refine gv_callR (W.runS (As := [.long x.toInt64, .long (lN 0), .long (lN 1)]) (rest := [.ref mo]) ⟨hx, hb, hml, hown, hts⟩ (c_X8_in_0 l x.toInt64 (lN 0) (lN 1) (in_raw (pk_lT (by decide)) (pk_lT (by decide)) (by omega))) (va_cwS 3 hts gX8_turn_X8_in rfl rfl rfl (by decide +kernel) ⟨Nat.le_of_ble_eq_true rfl, Nat.le_of_ble_eq_true rfl⟩) ⟨fun a U g mk q => q, fun U hU hW => ⟨rfl, trivial⟩⟩ rfl rfl hl.1 rfl (lv_room (Nat.le_of_ble_eq_true rfl)) dX8_turn_10 ⟨Nat.zero_le _, Nat.zero_le _⟩) ?_
  refine gv_if_ne (tgt := 20) hx hb dX8_turn_13 (by decide) (by omega) (fun c_13 => ?_) (fun c_13 => ?_)
  ·
    exact absurd c_13 (by decide)
  ·
    refine lv_iconst (v := nI 1) hx hb dX8_turn_16 (by decide) ?_
    refine lv_goto (tgt := 21) hx hb dX8_turn_17 (by decide) ?_
    refine lv_iconst (v := nI 1) hx hb dX8_turn_21 (by decide) ?_
    have hPc := hP.sub (ws' := [(mo, .inr (7, [.int (nI 0), .int (nI by_), .ref abuf, .int (nI ks), .ref akey, .int (nI ts), .ref atwk, .int (nI rx), .int (nI mn), .ref arow, .ref abox, .ref awrd, .int (nI rd), .ref ablk, .ref amov, .int (nI za), .int (nI zb), .ref ahA, .ref ahB, .ref ahC, .ref anum, .ref amsg, .ref astr]))]) [0] rfl
    have hDc := hD.sub (ws' := [(mo, .inr (7, [.int (nI 0), .int (nI by_), .ref abuf, .int (nI ks), .ref akey, .int (nI ts), .ref atwk, .int (nI rx), .int (nI mn), .ref arow, .ref abox, .ref awrd, .int (nI rd), .ref ablk, .ref amov, .int (nI za), .int (nI zb), .ref ahA, .ref ahB, .ref ahC, .ref anum, .ref amsg, .ref astr]))]) [0] (by decide) rfl
    have hFc := va_free (wc := [(mo, .inr (7, [.int (nI 0), .int (nI by_), .ref abuf, .int (nI ks), .ref akey, .int (nI ts), .ref atwk, .int (nI rx), .int (nI mn), .ref arow, .ref abox, .ref awrd, .int (nI rd), .ref ablk, .ref amov, .int (nI za), .int (nI zb), .ref ahA, .ref ahB, .ref ahC, .ref anum, .ref amsg, .ref astr]))]) hD hS hA [0] rfl
    refine va_calli (va_runV (As := [.int (nI 1), .int (nI 1)]) (rest := []) ⟨hx, hb, hml, hown, hts⟩ (c_X8_refuses_1 l dC dI cI H.size mo abuf akey atwk arow abox awrd ablk amov ahA ahB ahC anum amsg astr 0 by_ ks ts rx mn rd za zb 1 (by omega) (by omega)) (cwV 2 hts gX8_turn_X8_refuses rfl rfl rfl (by decide +kernel) ⟨Nat.le_of_ble_eq_true rfl, Nat.le_of_ble_eq_true rfl⟩) ⟨gPc_blind, va_recv hK hPc (ci := 7) (q0 := 0) rfl rfl, gPc_pre hPc hK hDc⟩ rfl rfl hl.1 rfl (lv_room (Nat.le_of_ble_eq_true rfl)) dX8_turn_22 ⟨Nat.zero_le _, Nat.zero_le _⟩) hS (fun q _ h => hFc q h) hFc (fun r9 u8 t8 H1 locs ht hvm hw hB hz1 hk1 hS => ?_)
    try dsimp only at hw hB
    obtain ⟨hP, hD⟩ := gB_join (wr := []) (w2 := [(mo, .inr (7, [.int (nI 1), .int (nI by_), .ref abuf, .int (nI ks), .ref akey, .int (nI ts), .ref atwk, .int (nI rx), .int (nI mn), .ref arow, .ref abox, .ref awrd, .int (nI rd), .ref ablk, .ref amov, .int (nI za), .int (nI zb), .ref ahA, .ref ahB, .ref ahC, .ref anum, .ref amsg, .ref astr]))]) hP hD [0] [] rfl rfl (by decide) (by decide) hk1 hFc ht hB rfl
    clear hk1 hz1 ht hB hvm hPc hDc hFc
    generalize H1 = H at hP hS ⊢
    subst hw
    refine gv_if_ne (tgt := 49) hx hb dX8_turn_25 (by decide) (by omega) (fun c_25 => ?_) (fun c_25 => ?_)
    ·
      exact W.vret hx hb hr (fun t ht hW => ⟨⟨(), rfl, trivial, gB_end ht hW hP hK hD⟩, hS.F ht⟩) hS.2.2 dX8_turn_49
    ·
      exact absurd c_25 (by decide)

set_option maxHeartbeats 4000000 in
set_option maxRecDepth 100000 in
/-- turn: b2_0 -/
theorem c_X8_turn_b2_0 (l : Launch) (dC : Nat → ClassId) (dI : Nat → Nat → Nat) (cI : ClassId) (sz : Nat) (mo : Nat) (abuf : Nat) (akey : Nat) (atwk : Nat) (arow : Nat) (abox : Nat) (awrd : Nat) (ablk : Nat) (amov : Nat) (ahA : Nat) (ahB : Nat) (ahC : Nat) (anum : Nat) (amsg : Nat) (astr : Nat) (th : Nat) (by_ : Nat) (ks : Nat) (ts : Nat) (rx : Nat) (mn : Nat) (rd : Nat) (za : Nat) (zb : Nat) (c0 : Nat → Nat) (u0 : Nat → Nat) (x2 : Int32) (hr1 : 2 ≤ rx) (hr2 : rx ≤ 65536) (hm2 : mn ≤ 64) (hts7 : ts ≤ 64) (hno : ¬ (2 ≤ mn ∧ 1000000 ≤ rx ^ mn)) : Met l yX8_turn wsX8_turn ({ frames := 1, cells := 0, slots := 0, locals := 25 }) (gPc dC dI cI [.ref mo, .int (nI 0), .int x2] [(mo, .inr (7, [.int (nI th), .int (nI by_), .ref abuf, .int (nI ks), .ref akey, .int (nI ts), .ref atwk, .int (nI rx), .int (nI mn), .ref arow, .ref abox, .ref awrd, .int (nI rd), .ref ablk, .ref amov, .int (nI za), .int (nI zb), .ref ahA, .ref ahB, .ref ahC, .ref anum, .ref amsg, .ref astr])), (ahC, .inl (cI, 64, .inl (gA c0))), (anum, .inl (cI, 128, .inl (gA u0)))] sz) (va_Qv (fun u : (Nat → Nat) × (Nat → Nat) => True) (fun u t => gB dC dI cI (va_A [(mo, .inr (7, [.int (nI th), .int (nI by_), .ref abuf, .int (nI ks), .ref akey, .int (nI ts), .ref atwk, .int (nI rx), .int (nI mn), .ref arow, .ref abox, .ref awrd, .int (nI rd), .ref ablk, .ref amov, .int (nI za), .int (nI zb), .ref ahA, .ref ahB, .ref ahC, .ref anum, .ref amsg, .ref astr])), (ahC, .inl (cI, 64, .inl (gA c0))), (anum, .inl (cI, 128, .inl (gA u0)))] sz) [(mo, .inr (7, [.int (nI 2), .int (nI by_), .ref abuf, .int (nI ks), .ref akey, .int (nI ts), .ref atwk, .int (nI rx), .int (nI mn), .ref arow, .ref abox, .ref awrd, .int (nI rd), .ref ablk, .ref amov, .int (nI za), .int (nI zb), .ref ahA, .ref ahB, .ref ahC, .ref anum, .ref amsg, .ref astr])), (ahC, .inl (cI, 64, .inl (gA u.1))), (anum, .inl (cI, 128, .inl (gA u.2)))] t) (va_A [(mo, .inr (7, [.int (nI th), .int (nI by_), .ref abuf, .int (nI ks), .ref akey, .int (nI ts), .ref atwk, .int (nI rx), .int (nI mn), .ref arow, .ref abox, .ref awrd, .int (nI rd), .ref ablk, .ref amov, .int (nI za), .int (nI zb), .ref ahA, .ref ahB, .ref ahC, .ref anum, .ref amsg, .ref astr])), (ahC, .inl (cI, 64, .inl (gA c0))), (anum, .inl (cI, 128, .inl (gA u0)))] sz)) 0 0 (va_A [(mo, .inr (7, [.int (nI th), .int (nI by_), .ref abuf, .int (nI ks), .ref akey, .int (nI ts), .ref atwk, .int (nI rx), .int (nI mn), .ref arow, .ref abox, .ref awrd, .int (nI rd), .ref ablk, .ref amov, .int (nI za), .int (nI zb), .ref ahA, .ref ahB, .ref ahC, .ref anum, .ref amsg, .ref astr])), (ahC, .inl (cI, 64, .inl (gA c0))), (anum, .inl (cI, 128, .inl (gA u0)))] sz) := by
  refine Met.ofW (cc := cX8_turn) (maxL := 3) (ret := none) (by decide) rfl ?_
  intro p e s m args below meth c s₁ B9 hml hv
  obtain ⟨rfl, hsz, ⟨hP, hK, hD0⟩⟩ := hv
  have hx := B9.exec
  have hb := B9.bytes
  have hr := B9.returns
  have hts := atoms_spec (ws := wsX8_turn) B9.pre
  have hown : s.vm.findClass RX8 = some m.cls := findClass_of_methodNamed B9.named
  have hlocks := B9.notSynchronized
  subst hsz
  have hD := hD0.self (sz := s.heap.size)
  generalize hAe : va_A [(mo, .inr (7, [.int (nI th), .int (nI by_), .ref abuf, .int (nI ks), .ref akey, .int (nI ts), .ref atwk, .int (nI rx), .int (nI mn), .ref arow, .ref abox, .ref awrd, .int (nI rd), .ref ablk, .ref amov, .int (nI za), .int (nI zb), .ref ahA, .ref ahB, .ref ahC, .ref anum, .ref amsg, .ref astr])), (ahC, .inl (cI, 64, .inl (gA c0))), (anum, .inl (cI, 128, .inl (gA u0)))] s.heap.size = A at hD ⊢
  have hA : ∀ q : Nat, s.heap.size ≤ q → A q := fun q h => by rw [← hAe]; exact Or.inr h
  have hS : va_S A s.heap s.heap [] := va_S.rf
  have hl := lv_entry ([.ref mo, .int (nI 0), .int x2]) (n := 3) (Nat.le_of_ble_eq_true rfl)
  rw [lg_entry_eq]
  generalize (lg_sl ([.ref mo, .int (nI 0), .int x2]) ++ List.replicate (3 - (lg_sl ([.ref mo, .int (nI 0), .int x2])).length) Slot.unset).toArray = ls at hl ⊢
  have hl : lv_has ls 3 [(0, .ref mo), (1, .int (nI 0)), (2, .int x2)] := hl
  refine lv_aload_n hx hb dX8_turn_0 rfl (lv_at hl 0 rfl) ?_
  refine lv_iconst (v := nI 0) hx hb dX8_turn_1 (by decide) ?_
  refine gv_put (own := RX8) (D := (dC, dI)) (ci := 7) (C := RX8) (T := TX8) (N := 23) (ws' := [(mo, .inr (7, [.int (nI 0), .int (nI by_), .ref abuf, .int (nI ks), .ref akey, .int (nI ts), .ref atwk, .int (nI rx), .int (nI mn), .ref arow, .ref abox, .ref awrd, .int (nI rd), .ref ablk, .ref amov, .int (nI za), .int (nI zb), .ref ahA, .ref ahB, .ref ahC, .ref anum, .ref amsg, .ref astr])), (ahC, .inl (cI, 64, .inl (gA c0))), (anum, .inl (cI, 128, .inl (gA u0)))]) hx hb hts (by decide +kernel) tyX8 tyX8_ok nmX8 hown hK hP hD hS 0 rfl rfl 0 (by decide) (hts (.fieldLink RX8 63 "NumeralCipherModel" "thrown" "I") (by decide +kernel)) rfl rfl (by decide +kernel) (Nat.le_of_ble_eq_true rfl) rfl dX8_turn_2 (fun H locs hP hD hS => ?_)
  refine lv_aload_n hx hb dX8_turn_5 rfl (lv_at hl 0 rfl) ?_
  refine lv_iload_n hx hb dX8_turn_6 rfl (lv_at hl 1 rfl) ?_
  refine lv_i2l (v := lN 0) hx hb dX8_turn_7 (nI_l (by omega)) ?_
  refine lv_lconst (v := lN 0) hx hb dX8_turn_8 (by decide) ?_
  refine lv_lconst (v := lN 1) hx hb dX8_turn_9 (by decide) ?_
  refine gv_callR (W.runS (As := [.long (lN 0), .long (lN 0), .long (lN 1)]) (rest := [.ref mo]) ⟨hx, hb, hml, hown, hts⟩ (c_X8_in_1 l (lN 0) (lN 0) (lN 1) ((in_nat (v := 0) (a := 0) (b := 1) (by omega) (by omega) (by omega)).1) ((in_nat (v := 0) (a := 0) (b := 1) (by omega) (by omega) (by omega)).2)) (va_cwS 3 hts gX8_turn_X8_in rfl rfl rfl (by decide +kernel) ⟨Nat.le_of_ble_eq_true rfl, Nat.le_of_ble_eq_true rfl⟩) ⟨fun a U g mk q => q, fun U hU hW => ⟨rfl, trivial⟩⟩ rfl rfl hl.1 rfl (lv_room (Nat.le_of_ble_eq_true rfl)) dX8_turn_10 ⟨Nat.zero_le _, Nat.zero_le _⟩) ?_
  refine gv_if_ne (tgt := 20) hx hb dX8_turn_13 (by decide) (by omega) (fun c_13 => ?_) (fun c_13 => ?_)
  ·
    refine lv_iconst (v := nI 0) hx hb dX8_turn_20 (by decide) ?_
    refine lv_iconst (v := nI 1) hx hb dX8_turn_21 (by decide) ?_
    have hPc := hP.sub (ws' := [(mo, .inr (7, [.int (nI 0), .int (nI by_), .ref abuf, .int (nI ks), .ref akey, .int (nI ts), .ref atwk, .int (nI rx), .int (nI mn), .ref arow, .ref abox, .ref awrd, .int (nI rd), .ref ablk, .ref amov, .int (nI za), .int (nI zb), .ref ahA, .ref ahB, .ref ahC, .ref anum, .ref amsg, .ref astr]))]) [0] rfl
    have hDc := hD.sub (ws' := [(mo, .inr (7, [.int (nI 0), .int (nI by_), .ref abuf, .int (nI ks), .ref akey, .int (nI ts), .ref atwk, .int (nI rx), .int (nI mn), .ref arow, .ref abox, .ref awrd, .int (nI rd), .ref ablk, .ref amov, .int (nI za), .int (nI zb), .ref ahA, .ref ahB, .ref ahC, .ref anum, .ref amsg, .ref astr]))]) [0] (by decide) rfl
    refine gv_callR (W.runV (As := [.int (nI 0), .int (nI 1)]) (rest := []) ⟨hx, hb, hml, hown, hts⟩ (c_X8_refuses_0 l dC dI cI H.size mo abuf akey atwk arow abox awrd ablk amov ahA ahB ahC anum amsg astr 0 by_ ks ts rx mn rd za zb 1 ) (cwV 2 hts gX8_turn_X8_refuses rfl rfl rfl (by decide +kernel) ⟨Nat.le_of_ble_eq_true rfl, Nat.le_of_ble_eq_true rfl⟩) ⟨gPc_blind, va_recv hK hPc (ci := 7) (q0 := 0) rfl rfl, gPc_pre hPc hK hDc⟩ rfl rfl hl.1 rfl (lv_room (Nat.le_of_ble_eq_true rfl)) dX8_turn_22 ⟨Nat.zero_le _, Nat.zero_le _⟩) ?_
    clear hPc hDc
    refine gv_if_ne (tgt := 49) hx hb dX8_turn_25 (by decide) (by omega) (fun c_25 => ?_) (fun c_25 => ?_)
    ·
      exact absurd c_25 (by decide)
    ·
      refine lv_aload_n hx hb dX8_turn_28 rfl (lv_at hl 0 rfl) ?_
      refine lv_aload_n hx hb dX8_turn_29 rfl (lv_at hl 0 rfl) ?_
      refine lv_iload_n hx hb dX8_turn_30 rfl (lv_at hl 1 rfl) ?_
      have hPc := hP.sub (ws' := [(mo, .inr (7, [.int (nI 0), .int (nI by_), .ref abuf, .int (nI ks), .ref akey, .int (nI ts), .ref atwk, .int (nI rx), .int (nI mn), .ref arow, .ref abox, .ref awrd, .int (nI rd), .ref ablk, .ref amov, .int (nI za), .int (nI zb), .ref ahA, .ref ahB, .ref ahC, .ref anum, .ref amsg, .ref astr])), (ahC, .inl (cI, 64, .inl (gA c0))), (anum, .inl (cI, 128, .inl (gA u0)))]) [0, 1, 2] rfl
      have hDc := hD.sub (ws' := [(mo, .inr (7, [.int (nI 0), .int (nI by_), .ref abuf, .int (nI ks), .ref akey, .int (nI ts), .ref atwk, .int (nI rx), .int (nI mn), .ref arow, .ref abox, .ref awrd, .int (nI rd), .ref ablk, .ref amov, .int (nI za), .int (nI zb), .ref ahA, .ref ahB, .ref ahC, .ref anum, .ref amsg, .ref astr])), (ahC, .inl (cI, 64, .inl (gA c0))), (anum, .inl (cI, 128, .inl (gA u0)))]) [0, 1, 2] (by decide) rfl
      have hFc := va_free (wc := [(mo, .inr (7, [.int (nI 0), .int (nI by_), .ref abuf, .int (nI ks), .ref akey, .int (nI ts), .ref atwk, .int (nI rx), .int (nI mn), .ref arow, .ref abox, .ref awrd, .int (nI rd), .ref ablk, .ref amov, .int (nI za), .int (nI zb), .ref ahA, .ref ahB, .ref ahC, .ref anum, .ref amsg, .ref astr])), (ahC, .inl (cI, 64, .inl (gA c0))), (anum, .inl (cI, 128, .inl (gA u0)))]) hD hS hA [0, 1, 2] rfl
      refine va_calli (va_runV (As := [.int (nI 0)]) (rest := [.ref mo]) ⟨hx, hb, hml, hown, hts⟩ (c_X8_canTurn_0 l dC dI cI H.size mo abuf akey atwk arow abox awrd ablk amov ahA ahB ahC anum amsg astr 0 by_ ks ts rx mn rd za zb c0 u0 (by omega) (by omega) (by omega) (by omega)) (cwV 1 hts gX8_turn_X8_canTurn rfl rfl rfl (by decide +kernel) ⟨Nat.le_of_ble_eq_true rfl, Nat.le_of_ble_eq_true rfl⟩) ⟨gPc_blind, va_recv hK hPc (ci := 7) (q0 := 0) rfl rfl, gPc_pre hPc hK hDc⟩ rfl rfl hl.1 rfl (lv_room (Nat.le_of_ble_eq_true rfl)) dX8_turn_31 ⟨Nat.zero_le _, Nat.zero_le _⟩) hS (fun q _ h => hFc q h) hFc (fun r9 u8 t8 H1 locs ht hvm hw hB hz1 hk1 hS => ?_)
      obtain ⟨c9_1, u9_1⟩ := u8
      try dsimp only at hw hB
      obtain ⟨hP, hD⟩ := gB_join (wr := []) (w2 := [(mo, .inr (7, [.int (nI 0), .int (nI by_), .ref abuf, .int (nI ks), .ref akey, .int (nI ts), .ref atwk, .int (nI rx), .int (nI mn), .ref arow, .ref abox, .ref awrd, .int (nI rd), .ref ablk, .ref amov, .int (nI za), .int (nI zb), .ref ahA, .ref ahB, .ref ahC, .ref anum, .ref amsg, .ref astr])), (ahC, .inl (cI, 64, .inl (gA c9_1))), (anum, .inl (cI, 128, .inl (gA u9_1)))]) hP hD [0, 1, 2] [] rfl rfl (by decide) (by decide) hk1 hFc ht hB rfl
      clear hk1 hz1 ht hB hvm hPc hDc hFc
      generalize H1 = H at hP hS ⊢
      subst hw
      refine gv_top (y := nI 0) (congrArg nI (if_neg hno)) ?_
      refine gv_if_ne (tgt := 41) hx hb dX8_turn_34 (by decide) (by omega) (fun c_34 => ?_) (fun c_34 => ?_)
      ·
        exact absurd c_34 (by decide)
      ·
        refine lv_iconst (v := nI 1) hx hb dX8_turn_37 (by decide) ?_
        refine lv_goto (tgt := 42) hx hb dX8_turn_38 (by decide) ?_
        refine lv_iconst (v := nI 2) hx hb dX8_turn_42 (by decide) ?_
        have hPc := hP.sub (ws' := [(mo, .inr (7, [.int (nI 0), .int (nI by_), .ref abuf, .int (nI ks), .ref akey, .int (nI ts), .ref atwk, .int (nI rx), .int (nI mn), .ref arow, .ref abox, .ref awrd, .int (nI rd), .ref ablk, .ref amov, .int (nI za), .int (nI zb), .ref ahA, .ref ahB, .ref ahC, .ref anum, .ref amsg, .ref astr]))]) [0] rfl
        have hDc := hD.sub (ws' := [(mo, .inr (7, [.int (nI 0), .int (nI by_), .ref abuf, .int (nI ks), .ref akey, .int (nI ts), .ref atwk, .int (nI rx), .int (nI mn), .ref arow, .ref abox, .ref awrd, .int (nI rd), .ref ablk, .ref amov, .int (nI za), .int (nI zb), .ref ahA, .ref ahB, .ref ahC, .ref anum, .ref amsg, .ref astr]))]) [0] (by decide) rfl
        have hFc := va_free (wc := [(mo, .inr (7, [.int (nI 0), .int (nI by_), .ref abuf, .int (nI ks), .ref akey, .int (nI ts), .ref atwk, .int (nI rx), .int (nI mn), .ref arow, .ref abox, .ref awrd, .int (nI rd), .ref ablk, .ref amov, .int (nI za), .int (nI zb), .ref ahA, .ref ahB, .ref ahC, .ref anum, .ref amsg, .ref astr]))]) hD hS hA [0] rfl
        refine va_calli (va_runV (As := [.int (nI 1), .int (nI 2)]) (rest := []) ⟨hx, hb, hml, hown, hts⟩ (c_X8_refuses_1 l dC dI cI H.size mo abuf akey atwk arow abox awrd ablk amov ahA ahB ahC anum amsg astr 0 by_ ks ts rx mn rd za zb 2 (by omega) (by omega)) (cwV 2 hts gX8_turn_X8_refuses rfl rfl rfl (by decide +kernel) ⟨Nat.le_of_ble_eq_true rfl, Nat.le_of_ble_eq_true rfl⟩) ⟨gPc_blind, va_recv hK hPc (ci := 7) (q0 := 0) rfl rfl, gPc_pre hPc hK hDc⟩ rfl rfl hl.1 rfl (lv_room (Nat.le_of_ble_eq_true rfl)) dX8_turn_43 ⟨Nat.zero_le _, Nat.zero_le _⟩) hS (fun q _ h => hFc q h) hFc (fun r9 u8 t8 H1 locs ht hvm hw hB hz1 hk1 hS => ?_)
        try dsimp only at hw hB
        obtain ⟨hP, hD⟩ := gB_join (wr := [(ahC, .inl (cI, 64, .inl (gA c9_1))), (anum, .inl (cI, 128, .inl (gA u9_1)))]) (w2 := [(ahC, .inl (cI, 64, .inl (gA c9_1))), (anum, .inl (cI, 128, .inl (gA u9_1))), (mo, .inr (7, [.int (nI 2), .int (nI by_), .ref abuf, .int (nI ks), .ref akey, .int (nI ts), .ref atwk, .int (nI rx), .int (nI mn), .ref arow, .ref abox, .ref awrd, .int (nI rd), .ref ablk, .ref amov, .int (nI za), .int (nI zb), .ref ahA, .ref ahB, .ref ahC, .ref anum, .ref amsg, .ref astr]))]) hP hD [0] [1, 2] rfl rfl (by decide) (by decide) hk1 hFc ht hB rfl
        clear hk1 hz1 ht hB hvm hPc hDc hFc
        generalize H1 = H at hP hS ⊢
        subst hw
        refine gv_if_eq (tgt := 50) hx hb dX8_turn_46 (by decide) (by omega) (fun c_46 => ?_) (fun c_46 => ?_)
        ·
          exact absurd c_46 (by decide)
        ·
          exact W.vret hx hb hr (fun t ht hW => ⟨⟨(c9_1, u9_1), rfl, trivial, gB_end ht hW (hP.sub [2, 0, 1] rfl) hK (hD.sub [2, 0, 1] (by decide) rfl)⟩, hS.F ht⟩) hS.2.2 dX8_turn_49
  ·
    exact absurd c_13 (by decide)

set_option maxHeartbeats 4000000 in
set_option maxRecDepth 100000 in
/-- turn: 00 -/
theorem c_X8_turn_00 (l : Launch) (dC : Nat → ClassId) (dI : Nat → Nat → Nat) (cI : ClassId) (sz : Nat) (mo : Nat) (abuf : Nat) (akey : Nat) (atwk : Nat) (arow : Nat) (abox : Nat) (awrd : Nat) (ablk : Nat) (amov : Nat) (ahA : Nat) (ahB : Nat) (ahC : Nat) (anum : Nat) (amsg : Nat) (astr : Nat) (th : Nat) (by_ : Nat) (ks : Nat) (ts : Nat) (rx : Nat) (mn : Nat) (rd : Nat) (za : Nat) (zb : Nat) (ro : Nat → Nat) (kb : Nat → Nat) (tk : Nat → Nat) (bx : Nat → Nat) (w0 : Nat → Nat) (a0 : Nat → Nat) (b0 : Nat → Nat) (c0 : Nat → Nat) (u0 : Nat → Nat) (m0 : Nat → Nat) (s0 : Nat → Nat) (k0 : Nat → Nat) (v0 : Nat → Nat) (f : Nat → Nat) (tb : Nat → Nat) (Wk : Nat → Nat) (hks : ks = 16 ∨ ks = 24 ∨ ks = 32) (hkb : ∀ q, q < 32 → kb q < 256) (hbx : ∀ q, q < 256 → bx q = sB q) (hWk : ∀ q, q < 16 * (ks / 4 + 7) → ksS (keyK 0 kb (ks / 4)) (ks / 4) (3 * (ks / 4) + 28) q = Wk q) (hW : ∀ j, j < 16 * (ks / 4 + 6 + 1) → Wk j < 256) (hr1 : 2 ≤ rx) (hr2 : rx ≤ 65536) (hm2 : mn ≤ 64) (htsz : ts ≤ 32) (htk : ∀ j, j < ts → tk j = tb j) (ht0 : ∀ j, ts ≤ j → j < 64 → tb j = 0) (htb : ∀ j, j < 64 → tb j < 256) (hd0 : ∀ q, q < mn → f q < rx) (hro : ∀ q, q < mn → ro q = f q) (hyes : 2 ≤ mn ∧ 1000000 ≤ rx ^ mn) : Met l yX8_turn wsX8_turn ({ frames := 4, cells := 0, slots := 0, locals := 106 }) (gPc dC dI cI [.ref mo, .int (nI 0), .int (nI 0)] [(mo, .inr (7, [.int (nI th), .int (nI by_), .ref abuf, .int (nI ks), .ref akey, .int (nI ts), .ref atwk, .int (nI rx), .int (nI mn), .ref arow, .ref abox, .ref awrd, .int (nI rd), .ref ablk, .ref amov, .int (nI za), .int (nI zb), .ref ahA, .ref ahB, .ref ahC, .ref anum, .ref amsg, .ref astr])), (arow, .inl (cI, 64, .inl (gA ro))), (akey, .inl (cI, 32, .inl (gA kb))), (atwk, .inl (cI, 32, .inl (gA tk))), (abox, .inl (cI, 256, .inl (gA bx))), (awrd, .inl (cI, 240, .inl (gA w0))), (ahA, .inl (cI, 64, .inl (gA a0))), (ahB, .inl (cI, 64, .inl (gA b0))), (ahC, .inl (cI, 64, .inl (gA c0))), (anum, .inl (cI, 128, .inl (gA u0))), (amsg, .inl (cI, 128, .inl (gA m0))), (astr, .inl (cI, 128, .inl (gA s0))), (ablk, .inl (cI, 16, .inl (gA k0))), (amov, .inl (cI, 16, .inl (gA v0)))] sz) (va_Qv (fun u : Nat × Nat × (Nat → Nat) × (Nat → Nat) × (Nat → Nat) × (Nat → Nat) × (Nat → Nat) × (Nat → Nat) × (Nat → Nat) × (Nat → Nat) × (Nat → Nat) × (Nat → Nat) => (∀ q, q < mn → u.2.2.1 q = fei (FF1 Wk (ks / 4 + 6) rx mn ts tb) 0 (mn / 2) (mn - mn / 2) 0 rx 10 f 10 q)) (fun u t => gB dC dI cI (va_A [(mo, .inr (7, [.int (nI th), .int (nI by_), .ref abuf, .int (nI ks), .ref akey, .int (nI ts), .ref atwk, .int (nI rx), .int (nI mn), .ref arow, .ref abox, .ref awrd, .int (nI rd), .ref ablk, .ref amov, .int (nI za), .int (nI zb), .ref ahA, .ref ahB, .ref ahC, .ref anum, .ref amsg, .ref astr])), (arow, .inl (cI, 64, .inl (gA ro))), (akey, .inl (cI, 32, .inl (gA kb))), (atwk, .inl (cI, 32, .inl (gA tk))), (abox, .inl (cI, 256, .inl (gA bx))), (awrd, .inl (cI, 240, .inl (gA w0))), (ahA, .inl (cI, 64, .inl (gA a0))), (ahB, .inl (cI, 64, .inl (gA b0))), (ahC, .inl (cI, 64, .inl (gA c0))), (anum, .inl (cI, 128, .inl (gA u0))), (amsg, .inl (cI, 128, .inl (gA m0))), (astr, .inl (cI, 128, .inl (gA s0))), (ablk, .inl (cI, 16, .inl (gA k0))), (amov, .inl (cI, 16, .inl (gA v0)))] sz) [(mo, .inr (7, [.int (nI 0), .int (nI by_), .ref abuf, .int (nI ks), .ref akey, .int (nI ts), .ref atwk, .int (nI rx), .int (nI mn), .ref arow, .ref abox, .ref awrd, .int (nI (ks / 4 + 6)), .ref ablk, .ref amov, .int (nI u.1), .int (nI u.2.1), .ref ahA, .ref ahB, .ref ahC, .ref anum, .ref amsg, .ref astr])), (arow, .inl (cI, 64, .inl (gA u.2.2.1))), (akey, .inl (cI, 32, .inl (gA kb))), (atwk, .inl (cI, 32, .inl (gA tk))), (abox, .inl (cI, 256, .inl (gA bx))), (awrd, .inl (cI, 240, .inl (gA u.2.2.2.1))), (ahA, .inl (cI, 64, .inl (gA u.2.2.2.2.1))), (ahB, .inl (cI, 64, .inl (gA u.2.2.2.2.2.1))), (ahC, .inl (cI, 64, .inl (gA u.2.2.2.2.2.2.1))), (anum, .inl (cI, 128, .inl (gA u.2.2.2.2.2.2.2.1))), (amsg, .inl (cI, 128, .inl (gA u.2.2.2.2.2.2.2.2.1))), (astr, .inl (cI, 128, .inl (gA u.2.2.2.2.2.2.2.2.2.1))), (ablk, .inl (cI, 16, .inl (gA u.2.2.2.2.2.2.2.2.2.2.1))), (amov, .inl (cI, 16, .inl (gA u.2.2.2.2.2.2.2.2.2.2.2)))] t) (va_A [(mo, .inr (7, [.int (nI th), .int (nI by_), .ref abuf, .int (nI ks), .ref akey, .int (nI ts), .ref atwk, .int (nI rx), .int (nI mn), .ref arow, .ref abox, .ref awrd, .int (nI rd), .ref ablk, .ref amov, .int (nI za), .int (nI zb), .ref ahA, .ref ahB, .ref ahC, .ref anum, .ref amsg, .ref astr])), (arow, .inl (cI, 64, .inl (gA ro))), (akey, .inl (cI, 32, .inl (gA kb))), (atwk, .inl (cI, 32, .inl (gA tk))), (abox, .inl (cI, 256, .inl (gA bx))), (awrd, .inl (cI, 240, .inl (gA w0))), (ahA, .inl (cI, 64, .inl (gA a0))), (ahB, .inl (cI, 64, .inl (gA b0))), (ahC, .inl (cI, 64, .inl (gA c0))), (anum, .inl (cI, 128, .inl (gA u0))), (amsg, .inl (cI, 128, .inl (gA m0))), (astr, .inl (cI, 128, .inl (gA s0))), (ablk, .inl (cI, 16, .inl (gA k0))), (amov, .inl (cI, 16, .inl (gA v0)))] sz)) 0 0 (va_A [(mo, .inr (7, [.int (nI th), .int (nI by_), .ref abuf, .int (nI ks), .ref akey, .int (nI ts), .ref atwk, .int (nI rx), .int (nI mn), .ref arow, .ref abox, .ref awrd, .int (nI rd), .ref ablk, .ref amov, .int (nI za), .int (nI zb), .ref ahA, .ref ahB, .ref ahC, .ref anum, .ref amsg, .ref astr])), (arow, .inl (cI, 64, .inl (gA ro))), (akey, .inl (cI, 32, .inl (gA kb))), (atwk, .inl (cI, 32, .inl (gA tk))), (abox, .inl (cI, 256, .inl (gA bx))), (awrd, .inl (cI, 240, .inl (gA w0))), (ahA, .inl (cI, 64, .inl (gA a0))), (ahB, .inl (cI, 64, .inl (gA b0))), (ahC, .inl (cI, 64, .inl (gA c0))), (anum, .inl (cI, 128, .inl (gA u0))), (amsg, .inl (cI, 128, .inl (gA m0))), (astr, .inl (cI, 128, .inl (gA s0))), (ablk, .inl (cI, 16, .inl (gA k0))), (amov, .inl (cI, 16, .inl (gA v0)))] sz) := by
  refine Met.ofW (cc := cX8_turn) (maxL := 3) (ret := none) (by decide) rfl ?_
  intro p e s m args below meth c s₁ B9 hml hv
  obtain ⟨rfl, hsz, ⟨hP, hK, hD0⟩⟩ := hv
  have hx := B9.exec
  have hb := B9.bytes
  have hr := B9.returns
  have hts := atoms_spec (ws := wsX8_turn) B9.pre
  have hown : s.vm.findClass RX8 = some m.cls := findClass_of_methodNamed B9.named
  have hlocks := B9.notSynchronized
  subst hsz
  have hD := hD0.self (sz := s.heap.size)
  generalize hAe : va_A [(mo, .inr (7, [.int (nI th), .int (nI by_), .ref abuf, .int (nI ks), .ref akey, .int (nI ts), .ref atwk, .int (nI rx), .int (nI mn), .ref arow, .ref abox, .ref awrd, .int (nI rd), .ref ablk, .ref amov, .int (nI za), .int (nI zb), .ref ahA, .ref ahB, .ref ahC, .ref anum, .ref amsg, .ref astr])), (arow, .inl (cI, 64, .inl (gA ro))), (akey, .inl (cI, 32, .inl (gA kb))), (atwk, .inl (cI, 32, .inl (gA tk))), (abox, .inl (cI, 256, .inl (gA bx))), (awrd, .inl (cI, 240, .inl (gA w0))), (ahA, .inl (cI, 64, .inl (gA a0))), (ahB, .inl (cI, 64, .inl (gA b0))), (ahC, .inl (cI, 64, .inl (gA c0))), (anum, .inl (cI, 128, .inl (gA u0))), (amsg, .inl (cI, 128, .inl (gA m0))), (astr, .inl (cI, 128, .inl (gA s0))), (ablk, .inl (cI, 16, .inl (gA k0))), (amov, .inl (cI, 16, .inl (gA v0)))] s.heap.size = A at hD ⊢
  have hA : ∀ q : Nat, s.heap.size ≤ q → A q := fun q h => by rw [← hAe]; exact Or.inr h
  have hS : va_S A s.heap s.heap [] := va_S.rf
  have hl := lv_entry ([.ref mo, .int (nI 0), .int (nI 0)]) (n := 3) (Nat.le_of_ble_eq_true rfl)
  rw [lg_entry_eq]
  generalize (lg_sl ([.ref mo, .int (nI 0), .int (nI 0)]) ++ List.replicate (3 - (lg_sl ([.ref mo, .int (nI 0), .int (nI 0)])).length) Slot.unset).toArray = ls at hl ⊢
  have hl : lv_has ls 3 [(0, .ref mo), (1, .int (nI 0)), (2, .int (nI 0))] := hl
  have hm1 : 2 ≤ mn := hyes.1
  refine lv_aload_n hx hb dX8_turn_0 rfl (lv_at hl 0 rfl) ?_
  refine lv_iconst (v := nI 0) hx hb dX8_turn_1 (by decide) ?_
  refine gv_put (own := RX8) (D := (dC, dI)) (ci := 7) (C := RX8) (T := TX8) (N := 23) (ws' := [(mo, .inr (7, [.int (nI 0), .int (nI by_), .ref abuf, .int (nI ks), .ref akey, .int (nI ts), .ref atwk, .int (nI rx), .int (nI mn), .ref arow, .ref abox, .ref awrd, .int (nI rd), .ref ablk, .ref amov, .int (nI za), .int (nI zb), .ref ahA, .ref ahB, .ref ahC, .ref anum, .ref amsg, .ref astr])), (arow, .inl (cI, 64, .inl (gA ro))), (akey, .inl (cI, 32, .inl (gA kb))), (atwk, .inl (cI, 32, .inl (gA tk))), (abox, .inl (cI, 256, .inl (gA bx))), (awrd, .inl (cI, 240, .inl (gA w0))), (ahA, .inl (cI, 64, .inl (gA a0))), (ahB, .inl (cI, 64, .inl (gA b0))), (ahC, .inl (cI, 64, .inl (gA c0))), (anum, .inl (cI, 128, .inl (gA u0))), (amsg, .inl (cI, 128, .inl (gA m0))), (astr, .inl (cI, 128, .inl (gA s0))), (ablk, .inl (cI, 16, .inl (gA k0))), (amov, .inl (cI, 16, .inl (gA v0)))]) hx hb hts (by decide +kernel) tyX8 tyX8_ok nmX8 hown hK hP hD hS 0 rfl rfl 0 (by decide) (hts (.fieldLink RX8 63 "NumeralCipherModel" "thrown" "I") (by decide +kernel)) rfl rfl (by decide +kernel) (Nat.le_of_ble_eq_true rfl) rfl dX8_turn_2 (fun H locs hP hD hS => ?_)
  refine lv_aload_n hx hb dX8_turn_5 rfl (lv_at hl 0 rfl) ?_
  refine lv_iload_n hx hb dX8_turn_6 rfl (lv_at hl 1 rfl) ?_
  refine lv_i2l (v := lN 0) hx hb dX8_turn_7 (nI_l (by omega)) ?_
  refine lv_lconst (v := lN 0) hx hb dX8_turn_8 (by decide) ?_
  refine lv_lconst (v := lN 1) hx hb dX8_turn_9 (by decide) ?_
  refine gv_callR (W.runS (As := [.long (lN 0), .long (lN 0), .long (lN 1)]) (rest := [.ref mo]) ⟨hx, hb, hml, hown, hts⟩ (c_X8_in_1 l (lN 0) (lN 0) (lN 1) ((in_nat (v := 0) (a := 0) (b := 1) (by omega) (by omega) (by omega)).1) ((in_nat (v := 0) (a := 0) (b := 1) (by omega) (by omega) (by omega)).2)) (va_cwS 3 hts gX8_turn_X8_in rfl rfl rfl (by decide +kernel) ⟨Nat.le_of_ble_eq_true rfl, Nat.le_of_ble_eq_true rfl⟩) ⟨fun a U g mk q => q, fun U hU hW => ⟨rfl, trivial⟩⟩ rfl rfl hl.1 rfl (lv_room (Nat.le_of_ble_eq_true rfl)) dX8_turn_10 ⟨Nat.zero_le _, Nat.zero_le _⟩) ?_
  refine gv_if_ne (tgt := 20) hx hb dX8_turn_13 (by decide) (by omega) (fun c_13 => ?_) (fun c_13 => ?_)
  ·
    refine lv_iconst (v := nI 0) hx hb dX8_turn_20 (by decide) ?_
    refine lv_iconst (v := nI 1) hx hb dX8_turn_21 (by decide) ?_
    have hPc := hP.sub (ws' := [(mo, .inr (7, [.int (nI 0), .int (nI by_), .ref abuf, .int (nI ks), .ref akey, .int (nI ts), .ref atwk, .int (nI rx), .int (nI mn), .ref arow, .ref abox, .ref awrd, .int (nI rd), .ref ablk, .ref amov, .int (nI za), .int (nI zb), .ref ahA, .ref ahB, .ref ahC, .ref anum, .ref amsg, .ref astr]))]) [0] rfl
    have hDc := hD.sub (ws' := [(mo, .inr (7, [.int (nI 0), .int (nI by_), .ref abuf, .int (nI ks), .ref akey, .int (nI ts), .ref atwk, .int (nI rx), .int (nI mn), .ref arow, .ref abox, .ref awrd, .int (nI rd), .ref ablk, .ref amov, .int (nI za), .int (nI zb), .ref ahA, .ref ahB, .ref ahC, .ref anum, .ref amsg, .ref astr]))]) [0] (by decide) rfl
    refine gv_callR (W.runV (As := [.int (nI 0), .int (nI 1)]) (rest := []) ⟨hx, hb, hml, hown, hts⟩ (c_X8_refuses_0 l dC dI cI H.size mo abuf akey atwk arow abox awrd ablk amov ahA ahB ahC anum amsg astr 0 by_ ks ts rx mn rd za zb 1 ) (cwV 2 hts gX8_turn_X8_refuses rfl rfl rfl (by decide +kernel) ⟨Nat.le_of_ble_eq_true rfl, Nat.le_of_ble_eq_true rfl⟩) ⟨gPc_blind, va_recv hK hPc (ci := 7) (q0 := 0) rfl rfl, gPc_pre hPc hK hDc⟩ rfl rfl hl.1 rfl (lv_room (Nat.le_of_ble_eq_true rfl)) dX8_turn_22 ⟨Nat.zero_le _, Nat.zero_le _⟩) ?_
    clear hPc hDc
    refine gv_if_ne (tgt := 49) hx hb dX8_turn_25 (by decide) (by omega) (fun c_25 => ?_) (fun c_25 => ?_)
    ·
      exact absurd c_25 (by decide)
    ·
      refine lv_aload_n hx hb dX8_turn_28 rfl (lv_at hl 0 rfl) ?_
      refine lv_aload_n hx hb dX8_turn_29 rfl (lv_at hl 0 rfl) ?_
      refine lv_iload_n hx hb dX8_turn_30 rfl (lv_at hl 1 rfl) ?_
      have hPc := hP.sub (ws' := [(mo, .inr (7, [.int (nI 0), .int (nI by_), .ref abuf, .int (nI ks), .ref akey, .int (nI ts), .ref atwk, .int (nI rx), .int (nI mn), .ref arow, .ref abox, .ref awrd, .int (nI rd), .ref ablk, .ref amov, .int (nI za), .int (nI zb), .ref ahA, .ref ahB, .ref ahC, .ref anum, .ref amsg, .ref astr])), (ahC, .inl (cI, 64, .inl (gA c0))), (anum, .inl (cI, 128, .inl (gA u0)))]) [0, 8, 9] rfl
      have hDc := hD.sub (ws' := [(mo, .inr (7, [.int (nI 0), .int (nI by_), .ref abuf, .int (nI ks), .ref akey, .int (nI ts), .ref atwk, .int (nI rx), .int (nI mn), .ref arow, .ref abox, .ref awrd, .int (nI rd), .ref ablk, .ref amov, .int (nI za), .int (nI zb), .ref ahA, .ref ahB, .ref ahC, .ref anum, .ref amsg, .ref astr])), (ahC, .inl (cI, 64, .inl (gA c0))), (anum, .inl (cI, 128, .inl (gA u0)))]) [0, 8, 9] (by decide) rfl
      have hFc := va_free (wc := [(mo, .inr (7, [.int (nI 0), .int (nI by_), .ref abuf, .int (nI ks), .ref akey, .int (nI ts), .ref atwk, .int (nI rx), .int (nI mn), .ref arow, .ref abox, .ref awrd, .int (nI rd), .ref ablk, .ref amov, .int (nI za), .int (nI zb), .ref ahA, .ref ahB, .ref ahC, .ref anum, .ref amsg, .ref astr])), (ahC, .inl (cI, 64, .inl (gA c0))), (anum, .inl (cI, 128, .inl (gA u0)))]) hD hS hA [0, 8, 9] rfl
      refine va_calli (va_runV (As := [.int (nI 0)]) (rest := [.ref mo]) ⟨hx, hb, hml, hown, hts⟩ (c_X8_canTurn_0 l dC dI cI H.size mo abuf akey atwk arow abox awrd ablk amov ahA ahB ahC anum amsg astr 0 by_ ks ts rx mn rd za zb c0 u0 (by omega) (by omega) (by omega) (by omega)) (cwV 1 hts gX8_turn_X8_canTurn rfl rfl rfl (by decide +kernel) ⟨Nat.le_of_ble_eq_true rfl, Nat.le_of_ble_eq_true rfl⟩) ⟨gPc_blind, va_recv hK hPc (ci := 7) (q0 := 0) rfl rfl, gPc_pre hPc hK hDc⟩ rfl rfl hl.1 rfl (lv_room (Nat.le_of_ble_eq_true rfl)) dX8_turn_31 ⟨Nat.zero_le _, Nat.zero_le _⟩) hS (fun q _ h => hFc q h) hFc (fun r9 u8 t8 H1 locs ht hvm hw hB hz1 hk1 hS => ?_)
      obtain ⟨c9_1, u9_1⟩ := u8
      try dsimp only at hw hB
      obtain ⟨hP, hD⟩ := gB_join (wr := [(arow, .inl (cI, 64, .inl (gA ro))), (akey, .inl (cI, 32, .inl (gA kb))), (atwk, .inl (cI, 32, .inl (gA tk))), (abox, .inl (cI, 256, .inl (gA bx))), (awrd, .inl (cI, 240, .inl (gA w0))), (ahA, .inl (cI, 64, .inl (gA a0))), (ahB, .inl (cI, 64, .inl (gA b0))), (amsg, .inl (cI, 128, .inl (gA m0))), (astr, .inl (cI, 128, .inl (gA s0))), (ablk, .inl (cI, 16, .inl (gA k0))), (amov, .inl (cI, 16, .inl (gA v0)))]) (w2 := [(arow, .inl (cI, 64, .inl (gA ro))), (akey, .inl (cI, 32, .inl (gA kb))), (atwk, .inl (cI, 32, .inl (gA tk))), (abox, .inl (cI, 256, .inl (gA bx))), (awrd, .inl (cI, 240, .inl (gA w0))), (ahA, .inl (cI, 64, .inl (gA a0))), (ahB, .inl (cI, 64, .inl (gA b0))), (amsg, .inl (cI, 128, .inl (gA m0))), (astr, .inl (cI, 128, .inl (gA s0))), (ablk, .inl (cI, 16, .inl (gA k0))), (amov, .inl (cI, 16, .inl (gA v0))), (mo, .inr (7, [.int (nI 0), .int (nI by_), .ref abuf, .int (nI ks), .ref akey, .int (nI ts), .ref atwk, .int (nI rx), .int (nI mn), .ref arow, .ref abox, .ref awrd, .int (nI rd), .ref ablk, .ref amov, .int (nI za), .int (nI zb), .ref ahA, .ref ahB, .ref ahC, .ref anum, .ref amsg, .ref astr])), (ahC, .inl (cI, 64, .inl (gA c9_1))), (anum, .inl (cI, 128, .inl (gA u9_1)))]) hP hD [0, 8, 9] [1, 2, 3, 4, 5, 6, 7, 10, 11, 12, 13] rfl rfl (by decide) (by decide) hk1 hFc ht hB rfl
      clear hk1 hz1 ht hB hvm hPc hDc hFc
      generalize H1 = H at hP hS ⊢
      subst hw
      refine gv_top (y := nI 1) (congrArg nI (if_pos hyes)) ?_
      refine gv_if_ne (tgt := 41) hx hb dX8_turn_34 (by decide) (by omega) (fun c_34 => ?_) (fun c_34 => ?_)
      ·
        refine lv_iconst (v := nI 0) hx hb dX8_turn_41 (by decide) ?_
        refine lv_iconst (v := nI 2) hx hb dX8_turn_42 (by decide) ?_
        have hPc := hP.sub (ws' := [(mo, .inr (7, [.int (nI 0), .int (nI by_), .ref abuf, .int (nI ks), .ref akey, .int (nI ts), .ref atwk, .int (nI rx), .int (nI mn), .ref arow, .ref abox, .ref awrd, .int (nI rd), .ref ablk, .ref amov, .int (nI za), .int (nI zb), .ref ahA, .ref ahB, .ref ahC, .ref anum, .ref amsg, .ref astr]))]) [11] rfl
        have hDc := hD.sub (ws' := [(mo, .inr (7, [.int (nI 0), .int (nI by_), .ref abuf, .int (nI ks), .ref akey, .int (nI ts), .ref atwk, .int (nI rx), .int (nI mn), .ref arow, .ref abox, .ref awrd, .int (nI rd), .ref ablk, .ref amov, .int (nI za), .int (nI zb), .ref ahA, .ref ahB, .ref ahC, .ref anum, .ref amsg, .ref astr]))]) [11] (by decide) rfl
        refine gv_callR (W.runV (As := [.int (nI 0), .int (nI 2)]) (rest := []) ⟨hx, hb, hml, hown, hts⟩ (c_X8_refuses_0 l dC dI cI H.size mo abuf akey atwk arow abox awrd ablk amov ahA ahB ahC anum amsg astr 0 by_ ks ts rx mn rd za zb 2 ) (cwV 2 hts gX8_turn_X8_refuses rfl rfl rfl (by decide +kernel) ⟨Nat.le_of_ble_eq_true rfl, Nat.le_of_ble_eq_true rfl⟩) ⟨gPc_blind, va_recv hK hPc (ci := 7) (q0 := 0) rfl rfl, gPc_pre hPc hK hDc⟩ rfl rfl hl.1 rfl (lv_room (Nat.le_of_ble_eq_true rfl)) dX8_turn_43 ⟨Nat.zero_le _, Nat.zero_le _⟩) ?_
        clear hPc hDc
        refine gv_if_eq (tgt := 50) hx hb dX8_turn_46 (by decide) (by omega) (fun c_46 => ?_) (fun c_46 => ?_)
        ·
          refine lv_iload_n hx hb dX8_turn_50 rfl (lv_at hl 1 rfl) ?_
          refine gv_if_ne (tgt := 62) hx hb dX8_turn_51 (by decide) (by omega) (fun c_51 => ?_) (fun c_51 => ?_)
          ·
            exact absurd c_51 (by decide)
          ·
            refine lv_aload_n hx hb dX8_turn_54 rfl (lv_at hl 0 rfl) ?_
            refine lv_iload_n hx hb dX8_turn_55 rfl (lv_at hl 2 rfl) ?_
            have hPc := hP.sub (ws' := [(mo, .inr (7, [.int (nI 0), .int (nI by_), .ref abuf, .int (nI ks), .ref akey, .int (nI ts), .ref atwk, .int (nI rx), .int (nI mn), .ref arow, .ref abox, .ref awrd, .int (nI rd), .ref ablk, .ref amov, .int (nI za), .int (nI zb), .ref ahA, .ref ahB, .ref ahC, .ref anum, .ref amsg, .ref astr])), (arow, .inl (cI, 64, .inl (gA ro))), (akey, .inl (cI, 32, .inl (gA kb))), (atwk, .inl (cI, 32, .inl (gA tk))), (abox, .inl (cI, 256, .inl (gA bx))), (awrd, .inl (cI, 240, .inl (gA w0))), (ahA, .inl (cI, 64, .inl (gA a0))), (ahB, .inl (cI, 64, .inl (gA b0))), (ahC, .inl (cI, 64, .inl (gA c9_1))), (anum, .inl (cI, 128, .inl (gA u9_1))), (amsg, .inl (cI, 128, .inl (gA m0))), (astr, .inl (cI, 128, .inl (gA s0))), (ablk, .inl (cI, 16, .inl (gA k0))), (amov, .inl (cI, 16, .inl (gA v0)))]) [11, 0, 1, 2, 3, 4, 5, 6, 12, 13, 7, 8, 9, 10] rfl
            have hDc := hD.sub (ws' := [(mo, .inr (7, [.int (nI 0), .int (nI by_), .ref abuf, .int (nI ks), .ref akey, .int (nI ts), .ref atwk, .int (nI rx), .int (nI mn), .ref arow, .ref abox, .ref awrd, .int (nI rd), .ref ablk, .ref amov, .int (nI za), .int (nI zb), .ref ahA, .ref ahB, .ref ahC, .ref anum, .ref amsg, .ref astr])), (arow, .inl (cI, 64, .inl (gA ro))), (akey, .inl (cI, 32, .inl (gA kb))), (atwk, .inl (cI, 32, .inl (gA tk))), (abox, .inl (cI, 256, .inl (gA bx))), (awrd, .inl (cI, 240, .inl (gA w0))), (ahA, .inl (cI, 64, .inl (gA a0))), (ahB, .inl (cI, 64, .inl (gA b0))), (ahC, .inl (cI, 64, .inl (gA c9_1))), (anum, .inl (cI, 128, .inl (gA u9_1))), (amsg, .inl (cI, 128, .inl (gA m0))), (astr, .inl (cI, 128, .inl (gA s0))), (ablk, .inl (cI, 16, .inl (gA k0))), (amov, .inl (cI, 16, .inl (gA v0)))]) [11, 0, 1, 2, 3, 4, 5, 6, 12, 13, 7, 8, 9, 10] (by decide) rfl
            have hFc := va_free (wc := [(mo, .inr (7, [.int (nI 0), .int (nI by_), .ref abuf, .int (nI ks), .ref akey, .int (nI ts), .ref atwk, .int (nI rx), .int (nI mn), .ref arow, .ref abox, .ref awrd, .int (nI rd), .ref ablk, .ref amov, .int (nI za), .int (nI zb), .ref ahA, .ref ahB, .ref ahC, .ref anum, .ref amsg, .ref astr])), (arow, .inl (cI, 64, .inl (gA ro))), (akey, .inl (cI, 32, .inl (gA kb))), (atwk, .inl (cI, 32, .inl (gA tk))), (abox, .inl (cI, 256, .inl (gA bx))), (awrd, .inl (cI, 240, .inl (gA w0))), (ahA, .inl (cI, 64, .inl (gA a0))), (ahB, .inl (cI, 64, .inl (gA b0))), (ahC, .inl (cI, 64, .inl (gA c9_1))), (anum, .inl (cI, 128, .inl (gA u9_1))), (amsg, .inl (cI, 128, .inl (gA m0))), (astr, .inl (cI, 128, .inl (gA s0))), (ablk, .inl (cI, 16, .inl (gA k0))), (amov, .inl (cI, 16, .inl (gA v0)))]) hD hS hA [11, 0, 1, 2, 3, 4, 5, 6, 12, 13, 7, 8, 9, 10] rfl
            refine va_callv (va_runV (As := [.int (nI 0)]) (rest := []) ⟨hx, hb, hml, hown, hts⟩ (c_X8_turnFirst_0 l dC dI cI H.size mo abuf akey atwk arow abox awrd ablk amov ahA ahB ahC anum amsg astr 0 by_ ks ts rx mn rd za zb ro kb tk bx w0 a0 b0 c9_1 u9_1 m0 s0 k0 v0 f tb Wk hks hkb hbx hWk hW hr1 hr2 hm1 hm2 htsz htk ht0 htb hd0 hro) (cwV 1 hts gX8_turn_X8_turnFirst rfl rfl rfl (by decide +kernel) ⟨Nat.le_of_ble_eq_true rfl, Nat.le_of_ble_eq_true rfl⟩) ⟨gPc_blind, va_recv hK hPc (ci := 7) (q0 := 0) rfl rfl, gPc_pre hPc hK hDc⟩ rfl rfl hl.1 rfl (lv_room (Nat.le_of_ble_eq_true rfl)) dX8_turn_56 ⟨Nat.zero_le _, Nat.zero_le _⟩) hS (fun q _ h => hFc q h) hFc (fun u8 t8 H1 locs ht hvm hw hB hz1 hk1 hS => ?_)
            obtain ⟨za9_2, zb9_2, r9_2, w9_2, a9_2, b9_2, c9_2, u9_2, m9_2, s9_2, k9_2, v9_2⟩ := u8
            try dsimp only at hw hB
            obtain ⟨hP, hD⟩ := gB_join (wr := []) (w2 := [(mo, .inr (7, [.int (nI 0), .int (nI by_), .ref abuf, .int (nI ks), .ref akey, .int (nI ts), .ref atwk, .int (nI rx), .int (nI mn), .ref arow, .ref abox, .ref awrd, .int (nI (ks / 4 + 6)), .ref ablk, .ref amov, .int (nI za9_2), .int (nI zb9_2), .ref ahA, .ref ahB, .ref ahC, .ref anum, .ref amsg, .ref astr])), (arow, .inl (cI, 64, .inl (gA r9_2))), (akey, .inl (cI, 32, .inl (gA kb))), (atwk, .inl (cI, 32, .inl (gA tk))), (abox, .inl (cI, 256, .inl (gA bx))), (awrd, .inl (cI, 240, .inl (gA w9_2))), (ahA, .inl (cI, 64, .inl (gA a9_2))), (ahB, .inl (cI, 64, .inl (gA b9_2))), (ahC, .inl (cI, 64, .inl (gA c9_2))), (anum, .inl (cI, 128, .inl (gA u9_2))), (amsg, .inl (cI, 128, .inl (gA m9_2))), (astr, .inl (cI, 128, .inl (gA s9_2))), (ablk, .inl (cI, 16, .inl (gA k9_2))), (amov, .inl (cI, 16, .inl (gA v9_2)))]) hP hD [11, 0, 1, 2, 3, 4, 5, 6, 12, 13, 7, 8, 9, 10] [] rfl rfl (by decide) (by decide) hk1 hFc ht hB rfl
            clear hk1 hz1 ht hB hvm hPc hDc hFc
            generalize H1 = H at hP hS ⊢
            have hr9 := hw
            refine lv_goto (tgt := 67) hx hb dX8_turn_59 (by decide) ?_
            exact W.vret hx hb hr (fun t ht hW => ⟨⟨(za9_2, zb9_2, r9_2, w9_2, a9_2, b9_2, c9_2, u9_2, m9_2, s9_2, k9_2, v9_2), rfl, hr9, gB_end ht hW hP hK hD⟩, hS.F ht⟩) hS.2.2 dX8_turn_67
        ·
          exact absurd c_46 (by decide)
      ·
        exact absurd c_34 (by decide)
  ·
    exact absurd c_13 (by decide)

set_option maxHeartbeats 4000000 in
set_option maxRecDepth 100000 in
/-- turn: 01 -/
theorem c_X8_turn_01 (l : Launch) (dC : Nat → ClassId) (dI : Nat → Nat → Nat) (cI : ClassId) (sz : Nat) (mo : Nat) (abuf : Nat) (akey : Nat) (atwk : Nat) (arow : Nat) (abox : Nat) (awrd : Nat) (ablk : Nat) (amov : Nat) (ahA : Nat) (ahB : Nat) (ahC : Nat) (anum : Nat) (amsg : Nat) (astr : Nat) (th : Nat) (by_ : Nat) (ks : Nat) (ts : Nat) (rx : Nat) (mn : Nat) (rd : Nat) (za : Nat) (zb : Nat) (ro : Nat → Nat) (kb : Nat → Nat) (tk : Nat → Nat) (bx : Nat → Nat) (w0 : Nat → Nat) (a0 : Nat → Nat) (b0 : Nat → Nat) (c0 : Nat → Nat) (u0 : Nat → Nat) (m0 : Nat → Nat) (s0 : Nat → Nat) (k0 : Nat → Nat) (v0 : Nat → Nat) (f : Nat → Nat) (tb : Nat → Nat) (Wk : Nat → Nat) (hks : ks = 16 ∨ ks = 24 ∨ ks = 32) (hkb : ∀ q, q < 32 → kb q < 256) (hbx : ∀ q, q < 256 → bx q = sB q) (hWk : ∀ q, q < 16 * (ks / 4 + 7) → ksS (keyK 0 kb (ks / 4)) (ks / 4) (3 * (ks / 4) + 28) q = Wk q) (hW : ∀ j, j < 16 * (ks / 4 + 6 + 1) → Wk j < 256) (hr1 : 2 ≤ rx) (hr2 : rx ≤ 65536) (hm2 : mn ≤ 64) (htsz : ts ≤ 32) (htk : ∀ j, j < ts → tk j = tb j) (ht0 : ∀ j, ts ≤ j → j < 64 → tb j = 0) (htb : ∀ j, j < 64 → tb j < 256) (hd0 : ∀ q, q < mn → f q < rx) (hro : ∀ q, q < mn → ro q = f q) (hyes : 2 ≤ mn ∧ 1000000 ≤ rx ^ mn) : Met l yX8_turn wsX8_turn ({ frames := 4, cells := 0, slots := 0, locals := 106 }) (gPc dC dI cI [.ref mo, .int (nI 0), .int (nI 1)] [(mo, .inr (7, [.int (nI th), .int (nI by_), .ref abuf, .int (nI ks), .ref akey, .int (nI ts), .ref atwk, .int (nI rx), .int (nI mn), .ref arow, .ref abox, .ref awrd, .int (nI rd), .ref ablk, .ref amov, .int (nI za), .int (nI zb), .ref ahA, .ref ahB, .ref ahC, .ref anum, .ref amsg, .ref astr])), (arow, .inl (cI, 64, .inl (gA ro))), (akey, .inl (cI, 32, .inl (gA kb))), (atwk, .inl (cI, 32, .inl (gA tk))), (abox, .inl (cI, 256, .inl (gA bx))), (awrd, .inl (cI, 240, .inl (gA w0))), (ahA, .inl (cI, 64, .inl (gA a0))), (ahB, .inl (cI, 64, .inl (gA b0))), (ahC, .inl (cI, 64, .inl (gA c0))), (anum, .inl (cI, 128, .inl (gA u0))), (amsg, .inl (cI, 128, .inl (gA m0))), (astr, .inl (cI, 128, .inl (gA s0))), (ablk, .inl (cI, 16, .inl (gA k0))), (amov, .inl (cI, 16, .inl (gA v0)))] sz) (va_Qv (fun u : Nat × Nat × (Nat → Nat) × (Nat → Nat) × (Nat → Nat) × (Nat → Nat) × (Nat → Nat) × (Nat → Nat) × (Nat → Nat) × (Nat → Nat) × (Nat → Nat) × (Nat → Nat) => (∀ q, q < mn → u.2.2.1 q = fei (FF1 Wk (ks / 4 + 6) rx mn ts tb) 0 (mn / 2) (mn - mn / 2) 1 rx 10 f 10 q)) (fun u t => gB dC dI cI (va_A [(mo, .inr (7, [.int (nI th), .int (nI by_), .ref abuf, .int (nI ks), .ref akey, .int (nI ts), .ref atwk, .int (nI rx), .int (nI mn), .ref arow, .ref abox, .ref awrd, .int (nI rd), .ref ablk, .ref amov, .int (nI za), .int (nI zb), .ref ahA, .ref ahB, .ref ahC, .ref anum, .ref amsg, .ref astr])), (arow, .inl (cI, 64, .inl (gA ro))), (akey, .inl (cI, 32, .inl (gA kb))), (atwk, .inl (cI, 32, .inl (gA tk))), (abox, .inl (cI, 256, .inl (gA bx))), (awrd, .inl (cI, 240, .inl (gA w0))), (ahA, .inl (cI, 64, .inl (gA a0))), (ahB, .inl (cI, 64, .inl (gA b0))), (ahC, .inl (cI, 64, .inl (gA c0))), (anum, .inl (cI, 128, .inl (gA u0))), (amsg, .inl (cI, 128, .inl (gA m0))), (astr, .inl (cI, 128, .inl (gA s0))), (ablk, .inl (cI, 16, .inl (gA k0))), (amov, .inl (cI, 16, .inl (gA v0)))] sz) [(mo, .inr (7, [.int (nI 0), .int (nI by_), .ref abuf, .int (nI ks), .ref akey, .int (nI ts), .ref atwk, .int (nI rx), .int (nI mn), .ref arow, .ref abox, .ref awrd, .int (nI (ks / 4 + 6)), .ref ablk, .ref amov, .int (nI u.1), .int (nI u.2.1), .ref ahA, .ref ahB, .ref ahC, .ref anum, .ref amsg, .ref astr])), (arow, .inl (cI, 64, .inl (gA u.2.2.1))), (akey, .inl (cI, 32, .inl (gA kb))), (atwk, .inl (cI, 32, .inl (gA tk))), (abox, .inl (cI, 256, .inl (gA bx))), (awrd, .inl (cI, 240, .inl (gA u.2.2.2.1))), (ahA, .inl (cI, 64, .inl (gA u.2.2.2.2.1))), (ahB, .inl (cI, 64, .inl (gA u.2.2.2.2.2.1))), (ahC, .inl (cI, 64, .inl (gA u.2.2.2.2.2.2.1))), (anum, .inl (cI, 128, .inl (gA u.2.2.2.2.2.2.2.1))), (amsg, .inl (cI, 128, .inl (gA u.2.2.2.2.2.2.2.2.1))), (astr, .inl (cI, 128, .inl (gA u.2.2.2.2.2.2.2.2.2.1))), (ablk, .inl (cI, 16, .inl (gA u.2.2.2.2.2.2.2.2.2.2.1))), (amov, .inl (cI, 16, .inl (gA u.2.2.2.2.2.2.2.2.2.2.2)))] t) (va_A [(mo, .inr (7, [.int (nI th), .int (nI by_), .ref abuf, .int (nI ks), .ref akey, .int (nI ts), .ref atwk, .int (nI rx), .int (nI mn), .ref arow, .ref abox, .ref awrd, .int (nI rd), .ref ablk, .ref amov, .int (nI za), .int (nI zb), .ref ahA, .ref ahB, .ref ahC, .ref anum, .ref amsg, .ref astr])), (arow, .inl (cI, 64, .inl (gA ro))), (akey, .inl (cI, 32, .inl (gA kb))), (atwk, .inl (cI, 32, .inl (gA tk))), (abox, .inl (cI, 256, .inl (gA bx))), (awrd, .inl (cI, 240, .inl (gA w0))), (ahA, .inl (cI, 64, .inl (gA a0))), (ahB, .inl (cI, 64, .inl (gA b0))), (ahC, .inl (cI, 64, .inl (gA c0))), (anum, .inl (cI, 128, .inl (gA u0))), (amsg, .inl (cI, 128, .inl (gA m0))), (astr, .inl (cI, 128, .inl (gA s0))), (ablk, .inl (cI, 16, .inl (gA k0))), (amov, .inl (cI, 16, .inl (gA v0)))] sz)) 0 0 (va_A [(mo, .inr (7, [.int (nI th), .int (nI by_), .ref abuf, .int (nI ks), .ref akey, .int (nI ts), .ref atwk, .int (nI rx), .int (nI mn), .ref arow, .ref abox, .ref awrd, .int (nI rd), .ref ablk, .ref amov, .int (nI za), .int (nI zb), .ref ahA, .ref ahB, .ref ahC, .ref anum, .ref amsg, .ref astr])), (arow, .inl (cI, 64, .inl (gA ro))), (akey, .inl (cI, 32, .inl (gA kb))), (atwk, .inl (cI, 32, .inl (gA tk))), (abox, .inl (cI, 256, .inl (gA bx))), (awrd, .inl (cI, 240, .inl (gA w0))), (ahA, .inl (cI, 64, .inl (gA a0))), (ahB, .inl (cI, 64, .inl (gA b0))), (ahC, .inl (cI, 64, .inl (gA c0))), (anum, .inl (cI, 128, .inl (gA u0))), (amsg, .inl (cI, 128, .inl (gA m0))), (astr, .inl (cI, 128, .inl (gA s0))), (ablk, .inl (cI, 16, .inl (gA k0))), (amov, .inl (cI, 16, .inl (gA v0)))] sz) := by
  refine Met.ofW (cc := cX8_turn) (maxL := 3) (ret := none) (by decide) rfl ?_
  intro p e s m args below meth c s₁ B9 hml hv
  obtain ⟨rfl, hsz, ⟨hP, hK, hD0⟩⟩ := hv
  have hx := B9.exec
  have hb := B9.bytes
  have hr := B9.returns
  have hts := atoms_spec (ws := wsX8_turn) B9.pre
  have hown : s.vm.findClass RX8 = some m.cls := findClass_of_methodNamed B9.named
  have hlocks := B9.notSynchronized
  subst hsz
  have hD := hD0.self (sz := s.heap.size)
  generalize hAe : va_A [(mo, .inr (7, [.int (nI th), .int (nI by_), .ref abuf, .int (nI ks), .ref akey, .int (nI ts), .ref atwk, .int (nI rx), .int (nI mn), .ref arow, .ref abox, .ref awrd, .int (nI rd), .ref ablk, .ref amov, .int (nI za), .int (nI zb), .ref ahA, .ref ahB, .ref ahC, .ref anum, .ref amsg, .ref astr])), (arow, .inl (cI, 64, .inl (gA ro))), (akey, .inl (cI, 32, .inl (gA kb))), (atwk, .inl (cI, 32, .inl (gA tk))), (abox, .inl (cI, 256, .inl (gA bx))), (awrd, .inl (cI, 240, .inl (gA w0))), (ahA, .inl (cI, 64, .inl (gA a0))), (ahB, .inl (cI, 64, .inl (gA b0))), (ahC, .inl (cI, 64, .inl (gA c0))), (anum, .inl (cI, 128, .inl (gA u0))), (amsg, .inl (cI, 128, .inl (gA m0))), (astr, .inl (cI, 128, .inl (gA s0))), (ablk, .inl (cI, 16, .inl (gA k0))), (amov, .inl (cI, 16, .inl (gA v0)))] s.heap.size = A at hD ⊢
  have hA : ∀ q : Nat, s.heap.size ≤ q → A q := fun q h => by rw [← hAe]; exact Or.inr h
  have hS : va_S A s.heap s.heap [] := va_S.rf
  have hl := lv_entry ([.ref mo, .int (nI 0), .int (nI 1)]) (n := 3) (Nat.le_of_ble_eq_true rfl)
  rw [lg_entry_eq]
  generalize (lg_sl ([.ref mo, .int (nI 0), .int (nI 1)]) ++ List.replicate (3 - (lg_sl ([.ref mo, .int (nI 0), .int (nI 1)])).length) Slot.unset).toArray = ls at hl ⊢
  have hl : lv_has ls 3 [(0, .ref mo), (1, .int (nI 0)), (2, .int (nI 1))] := hl
  have hm1 : 2 ≤ mn := hyes.1
  refine lv_aload_n hx hb dX8_turn_0 rfl (lv_at hl 0 rfl) ?_
  refine lv_iconst (v := nI 0) hx hb dX8_turn_1 (by decide) ?_
  refine gv_put (own := RX8) (D := (dC, dI)) (ci := 7) (C := RX8) (T := TX8) (N := 23) (ws' := [(mo, .inr (7, [.int (nI 0), .int (nI by_), .ref abuf, .int (nI ks), .ref akey, .int (nI ts), .ref atwk, .int (nI rx), .int (nI mn), .ref arow, .ref abox, .ref awrd, .int (nI rd), .ref ablk, .ref amov, .int (nI za), .int (nI zb), .ref ahA, .ref ahB, .ref ahC, .ref anum, .ref amsg, .ref astr])), (arow, .inl (cI, 64, .inl (gA ro))), (akey, .inl (cI, 32, .inl (gA kb))), (atwk, .inl (cI, 32, .inl (gA tk))), (abox, .inl (cI, 256, .inl (gA bx))), (awrd, .inl (cI, 240, .inl (gA w0))), (ahA, .inl (cI, 64, .inl (gA a0))), (ahB, .inl (cI, 64, .inl (gA b0))), (ahC, .inl (cI, 64, .inl (gA c0))), (anum, .inl (cI, 128, .inl (gA u0))), (amsg, .inl (cI, 128, .inl (gA m0))), (astr, .inl (cI, 128, .inl (gA s0))), (ablk, .inl (cI, 16, .inl (gA k0))), (amov, .inl (cI, 16, .inl (gA v0)))]) hx hb hts (by decide +kernel) tyX8 tyX8_ok nmX8 hown hK hP hD hS 0 rfl rfl 0 (by decide) (hts (.fieldLink RX8 63 "NumeralCipherModel" "thrown" "I") (by decide +kernel)) rfl rfl (by decide +kernel) (Nat.le_of_ble_eq_true rfl) rfl dX8_turn_2 (fun H locs hP hD hS => ?_)
  refine lv_aload_n hx hb dX8_turn_5 rfl (lv_at hl 0 rfl) ?_
  refine lv_iload_n hx hb dX8_turn_6 rfl (lv_at hl 1 rfl) ?_
  refine lv_i2l (v := lN 0) hx hb dX8_turn_7 (nI_l (by omega)) ?_
  refine lv_lconst (v := lN 0) hx hb dX8_turn_8 (by decide) ?_
  refine lv_lconst (v := lN 1) hx hb dX8_turn_9 (by decide) ?_
  refine gv_callR (W.runS (As := [.long (lN 0), .long (lN 0), .long (lN 1)]) (rest := [.ref mo]) ⟨hx, hb, hml, hown, hts⟩ (c_X8_in_1 l (lN 0) (lN 0) (lN 1) ((in_nat (v := 0) (a := 0) (b := 1) (by omega) (by omega) (by omega)).1) ((in_nat (v := 0) (a := 0) (b := 1) (by omega) (by omega) (by omega)).2)) (va_cwS 3 hts gX8_turn_X8_in rfl rfl rfl (by decide +kernel) ⟨Nat.le_of_ble_eq_true rfl, Nat.le_of_ble_eq_true rfl⟩) ⟨fun a U g mk q => q, fun U hU hW => ⟨rfl, trivial⟩⟩ rfl rfl hl.1 rfl (lv_room (Nat.le_of_ble_eq_true rfl)) dX8_turn_10 ⟨Nat.zero_le _, Nat.zero_le _⟩) ?_
  refine gv_if_ne (tgt := 20) hx hb dX8_turn_13 (by decide) (by omega) (fun c_13 => ?_) (fun c_13 => ?_)
  ·
    refine lv_iconst (v := nI 0) hx hb dX8_turn_20 (by decide) ?_
    refine lv_iconst (v := nI 1) hx hb dX8_turn_21 (by decide) ?_
    have hPc := hP.sub (ws' := [(mo, .inr (7, [.int (nI 0), .int (nI by_), .ref abuf, .int (nI ks), .ref akey, .int (nI ts), .ref atwk, .int (nI rx), .int (nI mn), .ref arow, .ref abox, .ref awrd, .int (nI rd), .ref ablk, .ref amov, .int (nI za), .int (nI zb), .ref ahA, .ref ahB, .ref ahC, .ref anum, .ref amsg, .ref astr]))]) [0] rfl
    have hDc := hD.sub (ws' := [(mo, .inr (7, [.int (nI 0), .int (nI by_), .ref abuf, .int (nI ks), .ref akey, .int (nI ts), .ref atwk, .int (nI rx), .int (nI mn), .ref arow, .ref abox, .ref awrd, .int (nI rd), .ref ablk, .ref amov, .int (nI za), .int (nI zb), .ref ahA, .ref ahB, .ref ahC, .ref anum, .ref amsg, .ref astr]))]) [0] (by decide) rfl
    refine gv_callR (W.runV (As := [.int (nI 0), .int (nI 1)]) (rest := []) ⟨hx, hb, hml, hown, hts⟩ (c_X8_refuses_0 l dC dI cI H.size mo abuf akey atwk arow abox awrd ablk amov ahA ahB ahC anum amsg astr 0 by_ ks ts rx mn rd za zb 1 ) (cwV 2 hts gX8_turn_X8_refuses rfl rfl rfl (by decide +kernel) ⟨Nat.le_of_ble_eq_true rfl, Nat.le_of_ble_eq_true rfl⟩) ⟨gPc_blind, va_recv hK hPc (ci := 7) (q0 := 0) rfl rfl, gPc_pre hPc hK hDc⟩ rfl rfl hl.1 rfl (lv_room (Nat.le_of_ble_eq_true rfl)) dX8_turn_22 ⟨Nat.zero_le _, Nat.zero_le _⟩) ?_
    clear hPc hDc
    refine gv_if_ne (tgt := 49) hx hb dX8_turn_25 (by decide) (by omega) (fun c_25 => ?_) (fun c_25 => ?_)
    ·
      exact absurd c_25 (by decide)
    ·
      refine lv_aload_n hx hb dX8_turn_28 rfl (lv_at hl 0 rfl) ?_
      refine lv_aload_n hx hb dX8_turn_29 rfl (lv_at hl 0 rfl) ?_
      refine lv_iload_n hx hb dX8_turn_30 rfl (lv_at hl 1 rfl) ?_
      have hPc := hP.sub (ws' := [(mo, .inr (7, [.int (nI 0), .int (nI by_), .ref abuf, .int (nI ks), .ref akey, .int (nI ts), .ref atwk, .int (nI rx), .int (nI mn), .ref arow, .ref abox, .ref awrd, .int (nI rd), .ref ablk, .ref amov, .int (nI za), .int (nI zb), .ref ahA, .ref ahB, .ref ahC, .ref anum, .ref amsg, .ref astr])), (ahC, .inl (cI, 64, .inl (gA c0))), (anum, .inl (cI, 128, .inl (gA u0)))]) [0, 8, 9] rfl
      have hDc := hD.sub (ws' := [(mo, .inr (7, [.int (nI 0), .int (nI by_), .ref abuf, .int (nI ks), .ref akey, .int (nI ts), .ref atwk, .int (nI rx), .int (nI mn), .ref arow, .ref abox, .ref awrd, .int (nI rd), .ref ablk, .ref amov, .int (nI za), .int (nI zb), .ref ahA, .ref ahB, .ref ahC, .ref anum, .ref amsg, .ref astr])), (ahC, .inl (cI, 64, .inl (gA c0))), (anum, .inl (cI, 128, .inl (gA u0)))]) [0, 8, 9] (by decide) rfl
      have hFc := va_free (wc := [(mo, .inr (7, [.int (nI 0), .int (nI by_), .ref abuf, .int (nI ks), .ref akey, .int (nI ts), .ref atwk, .int (nI rx), .int (nI mn), .ref arow, .ref abox, .ref awrd, .int (nI rd), .ref ablk, .ref amov, .int (nI za), .int (nI zb), .ref ahA, .ref ahB, .ref ahC, .ref anum, .ref amsg, .ref astr])), (ahC, .inl (cI, 64, .inl (gA c0))), (anum, .inl (cI, 128, .inl (gA u0)))]) hD hS hA [0, 8, 9] rfl
      refine va_calli (va_runV (As := [.int (nI 0)]) (rest := [.ref mo]) ⟨hx, hb, hml, hown, hts⟩ (c_X8_canTurn_0 l dC dI cI H.size mo abuf akey atwk arow abox awrd ablk amov ahA ahB ahC anum amsg astr 0 by_ ks ts rx mn rd za zb c0 u0 (by omega) (by omega) (by omega) (by omega)) (cwV 1 hts gX8_turn_X8_canTurn rfl rfl rfl (by decide +kernel) ⟨Nat.le_of_ble_eq_true rfl, Nat.le_of_ble_eq_true rfl⟩) ⟨gPc_blind, va_recv hK hPc (ci := 7) (q0 := 0) rfl rfl, gPc_pre hPc hK hDc⟩ rfl rfl hl.1 rfl (lv_room (Nat.le_of_ble_eq_true rfl)) dX8_turn_31 ⟨Nat.zero_le _, Nat.zero_le _⟩) hS (fun q _ h => hFc q h) hFc (fun r9 u8 t8 H1 locs ht hvm hw hB hz1 hk1 hS => ?_)
      obtain ⟨c9_1, u9_1⟩ := u8
      try dsimp only at hw hB
      obtain ⟨hP, hD⟩ := gB_join (wr := [(arow, .inl (cI, 64, .inl (gA ro))), (akey, .inl (cI, 32, .inl (gA kb))), (atwk, .inl (cI, 32, .inl (gA tk))), (abox, .inl (cI, 256, .inl (gA bx))), (awrd, .inl (cI, 240, .inl (gA w0))), (ahA, .inl (cI, 64, .inl (gA a0))), (ahB, .inl (cI, 64, .inl (gA b0))), (amsg, .inl (cI, 128, .inl (gA m0))), (astr, .inl (cI, 128, .inl (gA s0))), (ablk, .inl (cI, 16, .inl (gA k0))), (amov, .inl (cI, 16, .inl (gA v0)))]) (w2 := [(arow, .inl (cI, 64, .inl (gA ro))), (akey, .inl (cI, 32, .inl (gA kb))), (atwk, .inl (cI, 32, .inl (gA tk))), (abox, .inl (cI, 256, .inl (gA bx))), (awrd, .inl (cI, 240, .inl (gA w0))), (ahA, .inl (cI, 64, .inl (gA a0))), (ahB, .inl (cI, 64, .inl (gA b0))), (amsg, .inl (cI, 128, .inl (gA m0))), (astr, .inl (cI, 128, .inl (gA s0))), (ablk, .inl (cI, 16, .inl (gA k0))), (amov, .inl (cI, 16, .inl (gA v0))), (mo, .inr (7, [.int (nI 0), .int (nI by_), .ref abuf, .int (nI ks), .ref akey, .int (nI ts), .ref atwk, .int (nI rx), .int (nI mn), .ref arow, .ref abox, .ref awrd, .int (nI rd), .ref ablk, .ref amov, .int (nI za), .int (nI zb), .ref ahA, .ref ahB, .ref ahC, .ref anum, .ref amsg, .ref astr])), (ahC, .inl (cI, 64, .inl (gA c9_1))), (anum, .inl (cI, 128, .inl (gA u9_1)))]) hP hD [0, 8, 9] [1, 2, 3, 4, 5, 6, 7, 10, 11, 12, 13] rfl rfl (by decide) (by decide) hk1 hFc ht hB rfl
      clear hk1 hz1 ht hB hvm hPc hDc hFc
      generalize H1 = H at hP hS ⊢
      subst hw
      refine gv_top (y := nI 1) (congrArg nI (if_pos hyes)) ?_
      refine gv_if_ne (tgt := 41) hx hb dX8_turn_34 (by decide) (by omega) (fun c_34 => ?_) (fun c_34 => ?_)
      ·
        refine lv_iconst (v := nI 0) hx hb dX8_turn_41 (by decide) ?_
        refine lv_iconst (v := nI 2) hx hb dX8_turn_42 (by decide) ?_
        have hPc := hP.sub (ws' := [(mo, .inr (7, [.int (nI 0), .int (nI by_), .ref abuf, .int (nI ks), .ref akey, .int (nI ts), .ref atwk, .int (nI rx), .int (nI mn), .ref arow, .ref abox, .ref awrd, .int (nI rd), .ref ablk, .ref amov, .int (nI za), .int (nI zb), .ref ahA, .ref ahB, .ref ahC, .ref anum, .ref amsg, .ref astr]))]) [11] rfl
        have hDc := hD.sub (ws' := [(mo, .inr (7, [.int (nI 0), .int (nI by_), .ref abuf, .int (nI ks), .ref akey, .int (nI ts), .ref atwk, .int (nI rx), .int (nI mn), .ref arow, .ref abox, .ref awrd, .int (nI rd), .ref ablk, .ref amov, .int (nI za), .int (nI zb), .ref ahA, .ref ahB, .ref ahC, .ref anum, .ref amsg, .ref astr]))]) [11] (by decide) rfl
        refine gv_callR (W.runV (As := [.int (nI 0), .int (nI 2)]) (rest := []) ⟨hx, hb, hml, hown, hts⟩ (c_X8_refuses_0 l dC dI cI H.size mo abuf akey atwk arow abox awrd ablk amov ahA ahB ahC anum amsg astr 0 by_ ks ts rx mn rd za zb 2 ) (cwV 2 hts gX8_turn_X8_refuses rfl rfl rfl (by decide +kernel) ⟨Nat.le_of_ble_eq_true rfl, Nat.le_of_ble_eq_true rfl⟩) ⟨gPc_blind, va_recv hK hPc (ci := 7) (q0 := 0) rfl rfl, gPc_pre hPc hK hDc⟩ rfl rfl hl.1 rfl (lv_room (Nat.le_of_ble_eq_true rfl)) dX8_turn_43 ⟨Nat.zero_le _, Nat.zero_le _⟩) ?_
        clear hPc hDc
        refine gv_if_eq (tgt := 50) hx hb dX8_turn_46 (by decide) (by omega) (fun c_46 => ?_) (fun c_46 => ?_)
        ·
          refine lv_iload_n hx hb dX8_turn_50 rfl (lv_at hl 1 rfl) ?_
          refine gv_if_ne (tgt := 62) hx hb dX8_turn_51 (by decide) (by omega) (fun c_51 => ?_) (fun c_51 => ?_)
          ·
            exact absurd c_51 (by decide)
          ·
            refine lv_aload_n hx hb dX8_turn_54 rfl (lv_at hl 0 rfl) ?_
            refine lv_iload_n hx hb dX8_turn_55 rfl (lv_at hl 2 rfl) ?_
            have hPc := hP.sub (ws' := [(mo, .inr (7, [.int (nI 0), .int (nI by_), .ref abuf, .int (nI ks), .ref akey, .int (nI ts), .ref atwk, .int (nI rx), .int (nI mn), .ref arow, .ref abox, .ref awrd, .int (nI rd), .ref ablk, .ref amov, .int (nI za), .int (nI zb), .ref ahA, .ref ahB, .ref ahC, .ref anum, .ref amsg, .ref astr])), (arow, .inl (cI, 64, .inl (gA ro))), (akey, .inl (cI, 32, .inl (gA kb))), (atwk, .inl (cI, 32, .inl (gA tk))), (abox, .inl (cI, 256, .inl (gA bx))), (awrd, .inl (cI, 240, .inl (gA w0))), (ahA, .inl (cI, 64, .inl (gA a0))), (ahB, .inl (cI, 64, .inl (gA b0))), (ahC, .inl (cI, 64, .inl (gA c9_1))), (anum, .inl (cI, 128, .inl (gA u9_1))), (amsg, .inl (cI, 128, .inl (gA m0))), (astr, .inl (cI, 128, .inl (gA s0))), (ablk, .inl (cI, 16, .inl (gA k0))), (amov, .inl (cI, 16, .inl (gA v0)))]) [11, 0, 1, 2, 3, 4, 5, 6, 12, 13, 7, 8, 9, 10] rfl
            have hDc := hD.sub (ws' := [(mo, .inr (7, [.int (nI 0), .int (nI by_), .ref abuf, .int (nI ks), .ref akey, .int (nI ts), .ref atwk, .int (nI rx), .int (nI mn), .ref arow, .ref abox, .ref awrd, .int (nI rd), .ref ablk, .ref amov, .int (nI za), .int (nI zb), .ref ahA, .ref ahB, .ref ahC, .ref anum, .ref amsg, .ref astr])), (arow, .inl (cI, 64, .inl (gA ro))), (akey, .inl (cI, 32, .inl (gA kb))), (atwk, .inl (cI, 32, .inl (gA tk))), (abox, .inl (cI, 256, .inl (gA bx))), (awrd, .inl (cI, 240, .inl (gA w0))), (ahA, .inl (cI, 64, .inl (gA a0))), (ahB, .inl (cI, 64, .inl (gA b0))), (ahC, .inl (cI, 64, .inl (gA c9_1))), (anum, .inl (cI, 128, .inl (gA u9_1))), (amsg, .inl (cI, 128, .inl (gA m0))), (astr, .inl (cI, 128, .inl (gA s0))), (ablk, .inl (cI, 16, .inl (gA k0))), (amov, .inl (cI, 16, .inl (gA v0)))]) [11, 0, 1, 2, 3, 4, 5, 6, 12, 13, 7, 8, 9, 10] (by decide) rfl
            have hFc := va_free (wc := [(mo, .inr (7, [.int (nI 0), .int (nI by_), .ref abuf, .int (nI ks), .ref akey, .int (nI ts), .ref atwk, .int (nI rx), .int (nI mn), .ref arow, .ref abox, .ref awrd, .int (nI rd), .ref ablk, .ref amov, .int (nI za), .int (nI zb), .ref ahA, .ref ahB, .ref ahC, .ref anum, .ref amsg, .ref astr])), (arow, .inl (cI, 64, .inl (gA ro))), (akey, .inl (cI, 32, .inl (gA kb))), (atwk, .inl (cI, 32, .inl (gA tk))), (abox, .inl (cI, 256, .inl (gA bx))), (awrd, .inl (cI, 240, .inl (gA w0))), (ahA, .inl (cI, 64, .inl (gA a0))), (ahB, .inl (cI, 64, .inl (gA b0))), (ahC, .inl (cI, 64, .inl (gA c9_1))), (anum, .inl (cI, 128, .inl (gA u9_1))), (amsg, .inl (cI, 128, .inl (gA m0))), (astr, .inl (cI, 128, .inl (gA s0))), (ablk, .inl (cI, 16, .inl (gA k0))), (amov, .inl (cI, 16, .inl (gA v0)))]) hD hS hA [11, 0, 1, 2, 3, 4, 5, 6, 12, 13, 7, 8, 9, 10] rfl
            refine va_callv (va_runV (As := [.int (nI 1)]) (rest := []) ⟨hx, hb, hml, hown, hts⟩ (c_X8_turnFirst_1 l dC dI cI H.size mo abuf akey atwk arow abox awrd ablk amov ahA ahB ahC anum amsg astr 0 by_ ks ts rx mn rd za zb ro kb tk bx w0 a0 b0 c9_1 u9_1 m0 s0 k0 v0 f tb Wk hks hkb hbx hWk hW hr1 hr2 hm1 hm2 htsz htk ht0 htb hd0 hro) (cwV 1 hts gX8_turn_X8_turnFirst rfl rfl rfl (by decide +kernel) ⟨Nat.le_of_ble_eq_true rfl, Nat.le_of_ble_eq_true rfl⟩) ⟨gPc_blind, va_recv hK hPc (ci := 7) (q0 := 0) rfl rfl, gPc_pre hPc hK hDc⟩ rfl rfl hl.1 rfl (lv_room (Nat.le_of_ble_eq_true rfl)) dX8_turn_56 ⟨Nat.zero_le _, Nat.zero_le _⟩) hS (fun q _ h => hFc q h) hFc (fun u8 t8 H1 locs ht hvm hw hB hz1 hk1 hS => ?_)
            obtain ⟨za9_2, zb9_2, r9_2, w9_2, a9_2, b9_2, c9_2, u9_2, m9_2, s9_2, k9_2, v9_2⟩ := u8
            try dsimp only at hw hB
            obtain ⟨hP, hD⟩ := gB_join (wr := []) (w2 := [(mo, .inr (7, [.int (nI 0), .int (nI by_), .ref abuf, .int (nI ks), .ref akey, .int (nI ts), .ref atwk, .int (nI rx), .int (nI mn), .ref arow, .ref abox, .ref awrd, .int (nI (ks / 4 + 6)), .ref ablk, .ref amov, .int (nI za9_2), .int (nI zb9_2), .ref ahA, .ref ahB, .ref ahC, .ref anum, .ref amsg, .ref astr])), (arow, .inl (cI, 64, .inl (gA r9_2))), (akey, .inl (cI, 32, .inl (gA kb))), (atwk, .inl (cI, 32, .inl (gA tk))), (abox, .inl (cI, 256, .inl (gA bx))), (awrd, .inl (cI, 240, .inl (gA w9_2))), (ahA, .inl (cI, 64, .inl (gA a9_2))), (ahB, .inl (cI, 64, .inl (gA b9_2))), (ahC, .inl (cI, 64, .inl (gA c9_2))), (anum, .inl (cI, 128, .inl (gA u9_2))), (amsg, .inl (cI, 128, .inl (gA m9_2))), (astr, .inl (cI, 128, .inl (gA s9_2))), (ablk, .inl (cI, 16, .inl (gA k9_2))), (amov, .inl (cI, 16, .inl (gA v9_2)))]) hP hD [11, 0, 1, 2, 3, 4, 5, 6, 12, 13, 7, 8, 9, 10] [] rfl rfl (by decide) (by decide) hk1 hFc ht hB rfl
            clear hk1 hz1 ht hB hvm hPc hDc hFc
            generalize H1 = H at hP hS ⊢
            have hr9 := hw
            refine lv_goto (tgt := 67) hx hb dX8_turn_59 (by decide) ?_
            exact W.vret hx hb hr (fun t ht hW => ⟨⟨(za9_2, zb9_2, r9_2, w9_2, a9_2, b9_2, c9_2, u9_2, m9_2, s9_2, k9_2, v9_2), rfl, hr9, gB_end ht hW hP hK hD⟩, hS.F ht⟩) hS.2.2 dX8_turn_67
        ·
          exact absurd c_46 (by decide)
      ·
        exact absurd c_34 (by decide)
  ·
    exact absurd c_13 (by decide)

set_option maxHeartbeats 4000000 in
set_option maxRecDepth 100000 in
/-- turn: b2_1 -/
theorem c_X8_turn_b2_1 (l : Launch) (dC : Nat → ClassId) (dI : Nat → Nat → Nat) (cI : ClassId) (sz : Nat) (mo : Nat) (abuf : Nat) (akey : Nat) (atwk : Nat) (arow : Nat) (abox : Nat) (awrd : Nat) (ablk : Nat) (amov : Nat) (ahA : Nat) (ahB : Nat) (ahC : Nat) (anum : Nat) (amsg : Nat) (astr : Nat) (th : Nat) (by_ : Nat) (ks : Nat) (ts : Nat) (rx : Nat) (mn : Nat) (rd : Nat) (za : Nat) (zb : Nat) (c0 : Nat → Nat) (u0 : Nat → Nat) (x2 : Int32) (hr1 : 2 ≤ rx) (hr2 : rx ≤ 65536) (hm2 : mn ≤ 64) (hts7 : ts ≤ 64) (hno : ¬ ((2 ≤ mn ∧ 1000000 ≤ rx ^ mn) ∧ (ts = 7 ∧ bl (rx ^ (mn - mn / 2) - 1) ≤ 12))) : Met l yX8_turn wsX8_turn ({ frames := 3, cells := 0, slots := 0, locals := 75 }) (gPc dC dI cI [.ref mo, .int (nI 1), .int x2] [(mo, .inr (7, [.int (nI th), .int (nI by_), .ref abuf, .int (nI ks), .ref akey, .int (nI ts), .ref atwk, .int (nI rx), .int (nI mn), .ref arow, .ref abox, .ref awrd, .int (nI rd), .ref ablk, .ref amov, .int (nI za), .int (nI zb), .ref ahA, .ref ahB, .ref ahC, .ref anum, .ref amsg, .ref astr])), (ahC, .inl (cI, 64, .inl (gA c0))), (anum, .inl (cI, 128, .inl (gA u0)))] sz) (va_Qv (fun u : (Nat → Nat) × (Nat → Nat) => True) (fun u t => gB dC dI cI (va_A [(mo, .inr (7, [.int (nI th), .int (nI by_), .ref abuf, .int (nI ks), .ref akey, .int (nI ts), .ref atwk, .int (nI rx), .int (nI mn), .ref arow, .ref abox, .ref awrd, .int (nI rd), .ref ablk, .ref amov, .int (nI za), .int (nI zb), .ref ahA, .ref ahB, .ref ahC, .ref anum, .ref amsg, .ref astr])), (ahC, .inl (cI, 64, .inl (gA c0))), (anum, .inl (cI, 128, .inl (gA u0)))] sz) [(mo, .inr (7, [.int (nI 2), .int (nI by_), .ref abuf, .int (nI ks), .ref akey, .int (nI ts), .ref atwk, .int (nI rx), .int (nI mn), .ref arow, .ref abox, .ref awrd, .int (nI rd), .ref ablk, .ref amov, .int (nI za), .int (nI zb), .ref ahA, .ref ahB, .ref ahC, .ref anum, .ref amsg, .ref astr])), (ahC, .inl (cI, 64, .inl (gA u.1))), (anum, .inl (cI, 128, .inl (gA u.2)))] t) (va_A [(mo, .inr (7, [.int (nI th), .int (nI by_), .ref abuf, .int (nI ks), .ref akey, .int (nI ts), .ref atwk, .int (nI rx), .int (nI mn), .ref arow, .ref abox, .ref awrd, .int (nI rd), .ref ablk, .ref amov, .int (nI za), .int (nI zb), .ref ahA, .ref ahB, .ref ahC, .ref anum, .ref amsg, .ref astr])), (ahC, .inl (cI, 64, .inl (gA c0))), (anum, .inl (cI, 128, .inl (gA u0)))] sz)) 0 0 (va_A [(mo, .inr (7, [.int (nI th), .int (nI by_), .ref abuf, .int (nI ks), .ref akey, .int (nI ts), .ref atwk, .int (nI rx), .int (nI mn), .ref arow, .ref abox, .ref awrd, .int (nI rd), .ref ablk, .ref amov, .int (nI za), .int (nI zb), .ref ahA, .ref ahB, .ref ahC, .ref anum, .ref amsg, .ref astr])), (ahC, .inl (cI, 64, .inl (gA c0))), (anum, .inl (cI, 128, .inl (gA u0)))] sz) := by
  refine Met.ofW (cc := cX8_turn) (maxL := 3) (ret := none) (by decide) rfl ?_
  intro p e s m args below meth c s₁ B9 hml hv
  obtain ⟨rfl, hsz, ⟨hP, hK, hD0⟩⟩ := hv
  have hx := B9.exec
  have hb := B9.bytes
  have hr := B9.returns
  have hts := atoms_spec (ws := wsX8_turn) B9.pre
  have hown : s.vm.findClass RX8 = some m.cls := findClass_of_methodNamed B9.named
  have hlocks := B9.notSynchronized
  subst hsz
  have hD := hD0.self (sz := s.heap.size)
  generalize hAe : va_A [(mo, .inr (7, [.int (nI th), .int (nI by_), .ref abuf, .int (nI ks), .ref akey, .int (nI ts), .ref atwk, .int (nI rx), .int (nI mn), .ref arow, .ref abox, .ref awrd, .int (nI rd), .ref ablk, .ref amov, .int (nI za), .int (nI zb), .ref ahA, .ref ahB, .ref ahC, .ref anum, .ref amsg, .ref astr])), (ahC, .inl (cI, 64, .inl (gA c0))), (anum, .inl (cI, 128, .inl (gA u0)))] s.heap.size = A at hD ⊢
  have hA : ∀ q : Nat, s.heap.size ≤ q → A q := fun q h => by rw [← hAe]; exact Or.inr h
  have hS : va_S A s.heap s.heap [] := va_S.rf
  have hl := lv_entry ([.ref mo, .int (nI 1), .int x2]) (n := 3) (Nat.le_of_ble_eq_true rfl)
  rw [lg_entry_eq]
  generalize (lg_sl ([.ref mo, .int (nI 1), .int x2]) ++ List.replicate (3 - (lg_sl ([.ref mo, .int (nI 1), .int x2])).length) Slot.unset).toArray = ls at hl ⊢
  have hl : lv_has ls 3 [(0, .ref mo), (1, .int (nI 1)), (2, .int x2)] := hl
  refine lv_aload_n hx hb dX8_turn_0 rfl (lv_at hl 0 rfl) ?_
  refine lv_iconst (v := nI 0) hx hb dX8_turn_1 (by decide) ?_
  refine gv_put (own := RX8) (D := (dC, dI)) (ci := 7) (C := RX8) (T := TX8) (N := 23) (ws' := [(mo, .inr (7, [.int (nI 0), .int (nI by_), .ref abuf, .int (nI ks), .ref akey, .int (nI ts), .ref atwk, .int (nI rx), .int (nI mn), .ref arow, .ref abox, .ref awrd, .int (nI rd), .ref ablk, .ref amov, .int (nI za), .int (nI zb), .ref ahA, .ref ahB, .ref ahC, .ref anum, .ref amsg, .ref astr])), (ahC, .inl (cI, 64, .inl (gA c0))), (anum, .inl (cI, 128, .inl (gA u0)))]) hx hb hts (by decide +kernel) tyX8 tyX8_ok nmX8 hown hK hP hD hS 0 rfl rfl 0 (by decide) (hts (.fieldLink RX8 63 "NumeralCipherModel" "thrown" "I") (by decide +kernel)) rfl rfl (by decide +kernel) (Nat.le_of_ble_eq_true rfl) rfl dX8_turn_2 (fun H locs hP hD hS => ?_)
  refine lv_aload_n hx hb dX8_turn_5 rfl (lv_at hl 0 rfl) ?_
  refine lv_iload_n hx hb dX8_turn_6 rfl (lv_at hl 1 rfl) ?_
  refine lv_i2l (v := lN 1) hx hb dX8_turn_7 (nI_l (by omega)) ?_
  refine lv_lconst (v := lN 0) hx hb dX8_turn_8 (by decide) ?_
  refine lv_lconst (v := lN 1) hx hb dX8_turn_9 (by decide) ?_
  refine gv_callR (W.runS (As := [.long (lN 1), .long (lN 0), .long (lN 1)]) (rest := [.ref mo]) ⟨hx, hb, hml, hown, hts⟩ (c_X8_in_1 l (lN 1) (lN 0) (lN 1) ((in_nat (v := 1) (a := 0) (b := 1) (by omega) (by omega) (by omega)).1) ((in_nat (v := 1) (a := 0) (b := 1) (by omega) (by omega) (by omega)).2)) (va_cwS 3 hts gX8_turn_X8_in rfl rfl rfl (by decide +kernel) ⟨Nat.le_of_ble_eq_true rfl, Nat.le_of_ble_eq_true rfl⟩) ⟨fun a U g mk q => q, fun U hU hW => ⟨rfl, trivial⟩⟩ rfl rfl hl.1 rfl (lv_room (Nat.le_of_ble_eq_true rfl)) dX8_turn_10 ⟨Nat.zero_le _, Nat.zero_le _⟩) ?_
  refine gv_if_ne (tgt := 20) hx hb dX8_turn_13 (by decide) (by omega) (fun c_13 => ?_) (fun c_13 => ?_)
  ·
    refine lv_iconst (v := nI 0) hx hb dX8_turn_20 (by decide) ?_
    refine lv_iconst (v := nI 1) hx hb dX8_turn_21 (by decide) ?_
    have hPc := hP.sub (ws' := [(mo, .inr (7, [.int (nI 0), .int (nI by_), .ref abuf, .int (nI ks), .ref akey, .int (nI ts), .ref atwk, .int (nI rx), .int (nI mn), .ref arow, .ref abox, .ref awrd, .int (nI rd), .ref ablk, .ref amov, .int (nI za), .int (nI zb), .ref ahA, .ref ahB, .ref ahC, .ref anum, .ref amsg, .ref astr]))]) [0] rfl
    have hDc := hD.sub (ws' := [(mo, .inr (7, [.int (nI 0), .int (nI by_), .ref abuf, .int (nI ks), .ref akey, .int (nI ts), .ref atwk, .int (nI rx), .int (nI mn), .ref arow, .ref abox, .ref awrd, .int (nI rd), .ref ablk, .ref amov, .int (nI za), .int (nI zb), .ref ahA, .ref ahB, .ref ahC, .ref anum, .ref amsg, .ref astr]))]) [0] (by decide) rfl
    refine gv_callR (W.runV (As := [.int (nI 0), .int (nI 1)]) (rest := []) ⟨hx, hb, hml, hown, hts⟩ (c_X8_refuses_0 l dC dI cI H.size mo abuf akey atwk arow abox awrd ablk amov ahA ahB ahC anum amsg astr 0 by_ ks ts rx mn rd za zb 1 ) (cwV 2 hts gX8_turn_X8_refuses rfl rfl rfl (by decide +kernel) ⟨Nat.le_of_ble_eq_true rfl, Nat.le_of_ble_eq_true rfl⟩) ⟨gPc_blind, va_recv hK hPc (ci := 7) (q0 := 0) rfl rfl, gPc_pre hPc hK hDc⟩ rfl rfl hl.1 rfl (lv_room (Nat.le_of_ble_eq_true rfl)) dX8_turn_22 ⟨Nat.zero_le _, Nat.zero_le _⟩) ?_
    clear hPc hDc
    refine gv_if_ne (tgt := 49) hx hb dX8_turn_25 (by decide) (by omega) (fun c_25 => ?_) (fun c_25 => ?_)
    ·
      exact absurd c_25 (by decide)
    ·
      refine lv_aload_n hx hb dX8_turn_28 rfl (lv_at hl 0 rfl) ?_
      refine lv_aload_n hx hb dX8_turn_29 rfl (lv_at hl 0 rfl) ?_
      refine lv_iload_n hx hb dX8_turn_30 rfl (lv_at hl 1 rfl) ?_
      have hPc := hP.sub (ws' := [(mo, .inr (7, [.int (nI 0), .int (nI by_), .ref abuf, .int (nI ks), .ref akey, .int (nI ts), .ref atwk, .int (nI rx), .int (nI mn), .ref arow, .ref abox, .ref awrd, .int (nI rd), .ref ablk, .ref amov, .int (nI za), .int (nI zb), .ref ahA, .ref ahB, .ref ahC, .ref anum, .ref amsg, .ref astr])), (ahC, .inl (cI, 64, .inl (gA c0))), (anum, .inl (cI, 128, .inl (gA u0)))]) [0, 1, 2] rfl
      have hDc := hD.sub (ws' := [(mo, .inr (7, [.int (nI 0), .int (nI by_), .ref abuf, .int (nI ks), .ref akey, .int (nI ts), .ref atwk, .int (nI rx), .int (nI mn), .ref arow, .ref abox, .ref awrd, .int (nI rd), .ref ablk, .ref amov, .int (nI za), .int (nI zb), .ref ahA, .ref ahB, .ref ahC, .ref anum, .ref amsg, .ref astr])), (ahC, .inl (cI, 64, .inl (gA c0))), (anum, .inl (cI, 128, .inl (gA u0)))]) [0, 1, 2] (by decide) rfl
      have hFc := va_free (wc := [(mo, .inr (7, [.int (nI 0), .int (nI by_), .ref abuf, .int (nI ks), .ref akey, .int (nI ts), .ref atwk, .int (nI rx), .int (nI mn), .ref arow, .ref abox, .ref awrd, .int (nI rd), .ref ablk, .ref amov, .int (nI za), .int (nI zb), .ref ahA, .ref ahB, .ref ahC, .ref anum, .ref amsg, .ref astr])), (ahC, .inl (cI, 64, .inl (gA c0))), (anum, .inl (cI, 128, .inl (gA u0)))]) hD hS hA [0, 1, 2] rfl
      refine va_calli (va_runV (As := [.int (nI 1)]) (rest := [.ref mo]) ⟨hx, hb, hml, hown, hts⟩ (c_X8_canTurn_1 l dC dI cI H.size mo abuf akey atwk arow abox awrd ablk amov ahA ahB ahC anum amsg astr 0 by_ ks ts rx mn rd za zb c0 u0 (by omega) (by omega) (by omega) (by omega)) (cwV 1 hts gX8_turn_X8_canTurn rfl rfl rfl (by decide +kernel) ⟨Nat.le_of_ble_eq_true rfl, Nat.le_of_ble_eq_true rfl⟩) ⟨gPc_blind, va_recv hK hPc (ci := 7) (q0 := 0) rfl rfl, gPc_pre hPc hK hDc⟩ rfl rfl hl.1 rfl (lv_room (Nat.le_of_ble_eq_true rfl)) dX8_turn_31 ⟨Nat.zero_le _, Nat.zero_le _⟩) hS (fun q _ h => hFc q h) hFc (fun r9 u8 t8 H1 locs ht hvm hw hB hz1 hk1 hS => ?_)
      obtain ⟨c9_1, u9_1⟩ := u8
      try dsimp only at hw hB
      obtain ⟨hP, hD⟩ := gB_join (wr := []) (w2 := [(mo, .inr (7, [.int (nI 0), .int (nI by_), .ref abuf, .int (nI ks), .ref akey, .int (nI ts), .ref atwk, .int (nI rx), .int (nI mn), .ref arow, .ref abox, .ref awrd, .int (nI rd), .ref ablk, .ref amov, .int (nI za), .int (nI zb), .ref ahA, .ref ahB, .ref ahC, .ref anum, .ref amsg, .ref astr])), (ahC, .inl (cI, 64, .inl (gA c9_1))), (anum, .inl (cI, 128, .inl (gA u9_1)))]) hP hD [0, 1, 2] [] rfl rfl (by decide) (by decide) hk1 hFc ht hB rfl
      clear hk1 hz1 ht hB hvm hPc hDc hFc
      generalize H1 = H at hP hS ⊢
      subst hw
      refine gv_top (y := nI 0) (congrArg nI (if_neg hno)) ?_
      refine gv_if_ne (tgt := 41) hx hb dX8_turn_34 (by decide) (by omega) (fun c_34 => ?_) (fun c_34 => ?_)
      ·
        exact absurd c_34 (by decide)
      ·
        refine lv_iconst (v := nI 1) hx hb dX8_turn_37 (by decide) ?_
        refine lv_goto (tgt := 42) hx hb dX8_turn_38 (by decide) ?_
        refine lv_iconst (v := nI 2) hx hb dX8_turn_42 (by decide) ?_
        have hPc := hP.sub (ws' := [(mo, .inr (7, [.int (nI 0), .int (nI by_), .ref abuf, .int (nI ks), .ref akey, .int (nI ts), .ref atwk, .int (nI rx), .int (nI mn), .ref arow, .ref abox, .ref awrd, .int (nI rd), .ref ablk, .ref amov, .int (nI za), .int (nI zb), .ref ahA, .ref ahB, .ref ahC, .ref anum, .ref amsg, .ref astr]))]) [0] rfl
        have hDc := hD.sub (ws' := [(mo, .inr (7, [.int (nI 0), .int (nI by_), .ref abuf, .int (nI ks), .ref akey, .int (nI ts), .ref atwk, .int (nI rx), .int (nI mn), .ref arow, .ref abox, .ref awrd, .int (nI rd), .ref ablk, .ref amov, .int (nI za), .int (nI zb), .ref ahA, .ref ahB, .ref ahC, .ref anum, .ref amsg, .ref astr]))]) [0] (by decide) rfl
        have hFc := va_free (wc := [(mo, .inr (7, [.int (nI 0), .int (nI by_), .ref abuf, .int (nI ks), .ref akey, .int (nI ts), .ref atwk, .int (nI rx), .int (nI mn), .ref arow, .ref abox, .ref awrd, .int (nI rd), .ref ablk, .ref amov, .int (nI za), .int (nI zb), .ref ahA, .ref ahB, .ref ahC, .ref anum, .ref amsg, .ref astr]))]) hD hS hA [0] rfl
        refine va_calli (va_runV (As := [.int (nI 1), .int (nI 2)]) (rest := []) ⟨hx, hb, hml, hown, hts⟩ (c_X8_refuses_1 l dC dI cI H.size mo abuf akey atwk arow abox awrd ablk amov ahA ahB ahC anum amsg astr 0 by_ ks ts rx mn rd za zb 2 (by omega) (by omega)) (cwV 2 hts gX8_turn_X8_refuses rfl rfl rfl (by decide +kernel) ⟨Nat.le_of_ble_eq_true rfl, Nat.le_of_ble_eq_true rfl⟩) ⟨gPc_blind, va_recv hK hPc (ci := 7) (q0 := 0) rfl rfl, gPc_pre hPc hK hDc⟩ rfl rfl hl.1 rfl (lv_room (Nat.le_of_ble_eq_true rfl)) dX8_turn_43 ⟨Nat.zero_le _, Nat.zero_le _⟩) hS (fun q _ h => hFc q h) hFc (fun r9 u8 t8 H1 locs ht hvm hw hB hz1 hk1 hS => ?_)
        try dsimp only at hw hB
        obtain ⟨hP, hD⟩ := gB_join (wr := [(ahC, .inl (cI, 64, .inl (gA c9_1))), (anum, .inl (cI, 128, .inl (gA u9_1)))]) (w2 := [(ahC, .inl (cI, 64, .inl (gA c9_1))), (anum, .inl (cI, 128, .inl (gA u9_1))), (mo, .inr (7, [.int (nI 2), .int (nI by_), .ref abuf, .int (nI ks), .ref akey, .int (nI ts), .ref atwk, .int (nI rx), .int (nI mn), .ref arow, .ref abox, .ref awrd, .int (nI rd), .ref ablk, .ref amov, .int (nI za), .int (nI zb), .ref ahA, .ref ahB, .ref ahC, .ref anum, .ref amsg, .ref astr]))]) hP hD [0] [1, 2] rfl rfl (by decide) (by decide) hk1 hFc ht hB rfl
        clear hk1 hz1 ht hB hvm hPc hDc hFc
        generalize H1 = H at hP hS ⊢
        subst hw
        refine gv_if_eq (tgt := 50) hx hb dX8_turn_46 (by decide) (by omega) (fun c_46 => ?_) (fun c_46 => ?_)
        ·
          exact absurd c_46 (by decide)
        ·
          exact W.vret hx hb hr (fun t ht hW => ⟨⟨(c9_1, u9_1), rfl, trivial, gB_end ht hW (hP.sub [2, 0, 1] rfl) hK (hD.sub [2, 0, 1] (by decide) rfl)⟩, hS.F ht⟩) hS.2.2 dX8_turn_49
  ·
    exact absurd c_13 (by decide)

set_option maxHeartbeats 4000000 in
set_option maxRecDepth 100000 in
/-- turn: 10 -/
theorem c_X8_turn_10 (l : Launch) (dC : Nat → ClassId) (dI : Nat → Nat → Nat) (cI : ClassId) (sz : Nat) (mo : Nat) (abuf : Nat) (akey : Nat) (atwk : Nat) (arow : Nat) (abox : Nat) (awrd : Nat) (ablk : Nat) (amov : Nat) (ahA : Nat) (ahB : Nat) (ahC : Nat) (anum : Nat) (amsg : Nat) (astr : Nat) (th : Nat) (by_ : Nat) (ks : Nat) (ts : Nat) (rx : Nat) (mn : Nat) (rd : Nat) (za : Nat) (zb : Nat) (ro : Nat → Nat) (kb : Nat → Nat) (tk : Nat → Nat) (bx : Nat → Nat) (w0 : Nat → Nat) (a0 : Nat → Nat) (b0 : Nat → Nat) (c0 : Nat → Nat) (u0 : Nat → Nat) (m0 : Nat → Nat) (s0 : Nat → Nat) (k0 : Nat → Nat) (v0 : Nat → Nat) (f : Nat → Nat) (tb : Nat → Nat) (Wk : Nat → Nat) (hks : ks = 16 ∨ ks = 24 ∨ ks = 32) (hkb : ∀ q, q < 32 → kb q < 256) (hbx : ∀ q, q < 256 → bx q = sB q) (hWk : ∀ q, q < 16 * (ks / 4 + 7) → ksS (keyK 1 kb (ks / 4)) (ks / 4) (3 * (ks / 4) + 28) q = Wk q) (hW : ∀ j, j < 16 * (ks / 4 + 6 + 1) → Wk j < 256) (hr1 : 2 ≤ rx) (hr2 : rx ≤ 65536) (hm2 : mn ≤ 64) (htk : ∀ j, j < ts → tk j = tb j) (htb : ∀ j, j < 64 → tb j < 256) (hd0 : ∀ q, q < mn → f q < rx) (hro : ∀ q, q < mn → ro q = f q) (hts7 : ts ≤ 64) (hyes : (2 ≤ mn ∧ 1000000 ≤ rx ^ mn) ∧ (ts = 7 ∧ bl (rx ^ (mn - mn / 2) - 1) ≤ 12)) : Met l yX8_turn wsX8_turn ({ frames := 3, cells := 0, slots := 0, locals := 84 }) (gPc dC dI cI [.ref mo, .int (nI 1), .int (nI 0)] [(mo, .inr (7, [.int (nI th), .int (nI by_), .ref abuf, .int (nI ks), .ref akey, .int (nI ts), .ref atwk, .int (nI rx), .int (nI mn), .ref arow, .ref abox, .ref awrd, .int (nI rd), .ref ablk, .ref amov, .int (nI za), .int (nI zb), .ref ahA, .ref ahB, .ref ahC, .ref anum, .ref amsg, .ref astr])), (arow, .inl (cI, 64, .inl (gA ro))), (akey, .inl (cI, 32, .inl (gA kb))), (atwk, .inl (cI, 32, .inl (gA tk))), (abox, .inl (cI, 256, .inl (gA bx))), (awrd, .inl (cI, 240, .inl (gA w0))), (ahA, .inl (cI, 64, .inl (gA a0))), (ahB, .inl (cI, 64, .inl (gA b0))), (ahC, .inl (cI, 64, .inl (gA c0))), (anum, .inl (cI, 128, .inl (gA u0))), (amsg, .inl (cI, 128, .inl (gA m0))), (astr, .inl (cI, 128, .inl (gA s0))), (ablk, .inl (cI, 16, .inl (gA k0))), (amov, .inl (cI, 16, .inl (gA v0)))] sz) (va_Qv (fun u : Nat × Nat × (Nat → Nat) × (Nat → Nat) × (Nat → Nat) × (Nat → Nat) × (Nat → Nat) × (Nat → Nat) × (Nat → Nat) × (Nat → Nat) × (Nat → Nat) × (Nat → Nat) => (∀ q, q < mn → u.2.2.1 q = fei (FF3 Wk (ks / 4 + 6) tb) 1 (mn - mn / 2) (mn - (mn - mn / 2)) 0 rx 8 f 8 q)) (fun u t => gB dC dI cI (va_A [(mo, .inr (7, [.int (nI th), .int (nI by_), .ref abuf, .int (nI ks), .ref akey, .int (nI ts), .ref atwk, .int (nI rx), .int (nI mn), .ref arow, .ref abox, .ref awrd, .int (nI rd), .ref ablk, .ref amov, .int (nI za), .int (nI zb), .ref ahA, .ref ahB, .ref ahC, .ref anum, .ref amsg, .ref astr])), (arow, .inl (cI, 64, .inl (gA ro))), (akey, .inl (cI, 32, .inl (gA kb))), (atwk, .inl (cI, 32, .inl (gA tk))), (abox, .inl (cI, 256, .inl (gA bx))), (awrd, .inl (cI, 240, .inl (gA w0))), (ahA, .inl (cI, 64, .inl (gA a0))), (ahB, .inl (cI, 64, .inl (gA b0))), (ahC, .inl (cI, 64, .inl (gA c0))), (anum, .inl (cI, 128, .inl (gA u0))), (amsg, .inl (cI, 128, .inl (gA m0))), (astr, .inl (cI, 128, .inl (gA s0))), (ablk, .inl (cI, 16, .inl (gA k0))), (amov, .inl (cI, 16, .inl (gA v0)))] sz) [(mo, .inr (7, [.int (nI 0), .int (nI by_), .ref abuf, .int (nI ks), .ref akey, .int (nI ts), .ref atwk, .int (nI rx), .int (nI mn), .ref arow, .ref abox, .ref awrd, .int (nI (ks / 4 + 6)), .ref ablk, .ref amov, .int (nI u.1), .int (nI u.2.1), .ref ahA, .ref ahB, .ref ahC, .ref anum, .ref amsg, .ref astr])), (arow, .inl (cI, 64, .inl (gA u.2.2.1))), (akey, .inl (cI, 32, .inl (gA kb))), (atwk, .inl (cI, 32, .inl (gA tk))), (abox, .inl (cI, 256, .inl (gA bx))), (awrd, .inl (cI, 240, .inl (gA u.2.2.2.1))), (ahA, .inl (cI, 64, .inl (gA u.2.2.2.2.1))), (ahB, .inl (cI, 64, .inl (gA u.2.2.2.2.2.1))), (ahC, .inl (cI, 64, .inl (gA u.2.2.2.2.2.2.1))), (anum, .inl (cI, 128, .inl (gA u.2.2.2.2.2.2.2.1))), (amsg, .inl (cI, 128, .inl (gA u.2.2.2.2.2.2.2.2.1))), (astr, .inl (cI, 128, .inl (gA u.2.2.2.2.2.2.2.2.2.1))), (ablk, .inl (cI, 16, .inl (gA u.2.2.2.2.2.2.2.2.2.2.1))), (amov, .inl (cI, 16, .inl (gA u.2.2.2.2.2.2.2.2.2.2.2)))] t) (va_A [(mo, .inr (7, [.int (nI th), .int (nI by_), .ref abuf, .int (nI ks), .ref akey, .int (nI ts), .ref atwk, .int (nI rx), .int (nI mn), .ref arow, .ref abox, .ref awrd, .int (nI rd), .ref ablk, .ref amov, .int (nI za), .int (nI zb), .ref ahA, .ref ahB, .ref ahC, .ref anum, .ref amsg, .ref astr])), (arow, .inl (cI, 64, .inl (gA ro))), (akey, .inl (cI, 32, .inl (gA kb))), (atwk, .inl (cI, 32, .inl (gA tk))), (abox, .inl (cI, 256, .inl (gA bx))), (awrd, .inl (cI, 240, .inl (gA w0))), (ahA, .inl (cI, 64, .inl (gA a0))), (ahB, .inl (cI, 64, .inl (gA b0))), (ahC, .inl (cI, 64, .inl (gA c0))), (anum, .inl (cI, 128, .inl (gA u0))), (amsg, .inl (cI, 128, .inl (gA m0))), (astr, .inl (cI, 128, .inl (gA s0))), (ablk, .inl (cI, 16, .inl (gA k0))), (amov, .inl (cI, 16, .inl (gA v0)))] sz)) 0 0 (va_A [(mo, .inr (7, [.int (nI th), .int (nI by_), .ref abuf, .int (nI ks), .ref akey, .int (nI ts), .ref atwk, .int (nI rx), .int (nI mn), .ref arow, .ref abox, .ref awrd, .int (nI rd), .ref ablk, .ref amov, .int (nI za), .int (nI zb), .ref ahA, .ref ahB, .ref ahC, .ref anum, .ref amsg, .ref astr])), (arow, .inl (cI, 64, .inl (gA ro))), (akey, .inl (cI, 32, .inl (gA kb))), (atwk, .inl (cI, 32, .inl (gA tk))), (abox, .inl (cI, 256, .inl (gA bx))), (awrd, .inl (cI, 240, .inl (gA w0))), (ahA, .inl (cI, 64, .inl (gA a0))), (ahB, .inl (cI, 64, .inl (gA b0))), (ahC, .inl (cI, 64, .inl (gA c0))), (anum, .inl (cI, 128, .inl (gA u0))), (amsg, .inl (cI, 128, .inl (gA m0))), (astr, .inl (cI, 128, .inl (gA s0))), (ablk, .inl (cI, 16, .inl (gA k0))), (amov, .inl (cI, 16, .inl (gA v0)))] sz) := by
  refine Met.ofW (cc := cX8_turn) (maxL := 3) (ret := none) (by decide) rfl ?_
  intro p e s m args below meth c s₁ B9 hml hv
  obtain ⟨rfl, hsz, ⟨hP, hK, hD0⟩⟩ := hv
  have hx := B9.exec
  have hb := B9.bytes
  have hr := B9.returns
  have hts := atoms_spec (ws := wsX8_turn) B9.pre
  have hown : s.vm.findClass RX8 = some m.cls := findClass_of_methodNamed B9.named
  have hlocks := B9.notSynchronized
  subst hsz
  have hD := hD0.self (sz := s.heap.size)
  generalize hAe : va_A [(mo, .inr (7, [.int (nI th), .int (nI by_), .ref abuf, .int (nI ks), .ref akey, .int (nI ts), .ref atwk, .int (nI rx), .int (nI mn), .ref arow, .ref abox, .ref awrd, .int (nI rd), .ref ablk, .ref amov, .int (nI za), .int (nI zb), .ref ahA, .ref ahB, .ref ahC, .ref anum, .ref amsg, .ref astr])), (arow, .inl (cI, 64, .inl (gA ro))), (akey, .inl (cI, 32, .inl (gA kb))), (atwk, .inl (cI, 32, .inl (gA tk))), (abox, .inl (cI, 256, .inl (gA bx))), (awrd, .inl (cI, 240, .inl (gA w0))), (ahA, .inl (cI, 64, .inl (gA a0))), (ahB, .inl (cI, 64, .inl (gA b0))), (ahC, .inl (cI, 64, .inl (gA c0))), (anum, .inl (cI, 128, .inl (gA u0))), (amsg, .inl (cI, 128, .inl (gA m0))), (astr, .inl (cI, 128, .inl (gA s0))), (ablk, .inl (cI, 16, .inl (gA k0))), (amov, .inl (cI, 16, .inl (gA v0)))] s.heap.size = A at hD ⊢
  have hA : ∀ q : Nat, s.heap.size ≤ q → A q := fun q h => by rw [← hAe]; exact Or.inr h
  have hS : va_S A s.heap s.heap [] := va_S.rf
  have hl := lv_entry ([.ref mo, .int (nI 1), .int (nI 0)]) (n := 3) (Nat.le_of_ble_eq_true rfl)
  rw [lg_entry_eq]
  generalize (lg_sl ([.ref mo, .int (nI 1), .int (nI 0)]) ++ List.replicate (3 - (lg_sl ([.ref mo, .int (nI 1), .int (nI 0)])).length) Slot.unset).toArray = ls at hl ⊢
  have hl : lv_has ls 3 [(0, .ref mo), (1, .int (nI 1)), (2, .int (nI 0))] := hl
  have hm1 : 2 ≤ mn := hyes.1.1
  have htsz : ts = 7 := hyes.2.1
  refine lv_aload_n hx hb dX8_turn_0 rfl (lv_at hl 0 rfl) ?_
  refine lv_iconst (v := nI 0) hx hb dX8_turn_1 (by decide) ?_
  refine gv_put (own := RX8) (D := (dC, dI)) (ci := 7) (C := RX8) (T := TX8) (N := 23) (ws' := [(mo, .inr (7, [.int (nI 0), .int (nI by_), .ref abuf, .int (nI ks), .ref akey, .int (nI ts), .ref atwk, .int (nI rx), .int (nI mn), .ref arow, .ref abox, .ref awrd, .int (nI rd), .ref ablk, .ref amov, .int (nI za), .int (nI zb), .ref ahA, .ref ahB, .ref ahC, .ref anum, .ref amsg, .ref astr])), (arow, .inl (cI, 64, .inl (gA ro))), (akey, .inl (cI, 32, .inl (gA kb))), (atwk, .inl (cI, 32, .inl (gA tk))), (abox, .inl (cI, 256, .inl (gA bx))), (awrd, .inl (cI, 240, .inl (gA w0))), (ahA, .inl (cI, 64, .inl (gA a0))), (ahB, .inl (cI, 64, .inl (gA b0))), (ahC, .inl (cI, 64, .inl (gA c0))), (anum, .inl (cI, 128, .inl (gA u0))), (amsg, .inl (cI, 128, .inl (gA m0))), (astr, .inl (cI, 128, .inl (gA s0))), (ablk, .inl (cI, 16, .inl (gA k0))), (amov, .inl (cI, 16, .inl (gA v0)))]) hx hb hts (by decide +kernel) tyX8 tyX8_ok nmX8 hown hK hP hD hS 0 rfl rfl 0 (by decide) (hts (.fieldLink RX8 63 "NumeralCipherModel" "thrown" "I") (by decide +kernel)) rfl rfl (by decide +kernel) (Nat.le_of_ble_eq_true rfl) rfl dX8_turn_2 (fun H locs hP hD hS => ?_)
  refine lv_aload_n hx hb dX8_turn_5 rfl (lv_at hl 0 rfl) ?_
  refine lv_iload_n hx hb dX8_turn_6 rfl (lv_at hl 1 rfl) ?_
  refine lv_i2l (v := lN 1) hx hb dX8_turn_7 (nI_l (by omega)) ?_
  refine lv_lconst (v := lN 0) hx hb dX8_turn_8 (by decide) ?_
  refine lv_lconst (v := lN 1) hx hb dX8_turn_9 (by decide) ?_
  refine gv_callR (W.runS (As := [.long (lN 1), .long (lN 0), .long (lN 1)]) (rest := [.ref mo]) ⟨hx, hb, hml, hown, hts⟩ (c_X8_in_1 l (lN 1) (lN 0) (lN 1) ((in_nat (v := 1) (a := 0) (b := 1) (by omega) (by omega) (by omega)).1) ((in_nat (v := 1) (a := 0) (b := 1) (by omega) (by omega) (by omega)).2)) (va_cwS 3 hts gX8_turn_X8_in rfl rfl rfl (by decide +kernel) ⟨Nat.le_of_ble_eq_true rfl, Nat.le_of_ble_eq_true rfl⟩) ⟨fun a U g mk q => q, fun U hU hW => ⟨rfl, trivial⟩⟩ rfl rfl hl.1 rfl (lv_room (Nat.le_of_ble_eq_true rfl)) dX8_turn_10 ⟨Nat.zero_le _, Nat.zero_le _⟩) ?_
  refine gv_if_ne (tgt := 20) hx hb dX8_turn_13 (by decide) (by omega) (fun c_13 => ?_) (fun c_13 => ?_)
  ·
    refine lv_iconst (v := nI 0) hx hb dX8_turn_20 (by decide) ?_
    refine lv_iconst (v := nI 1) hx hb dX8_turn_21 (by decide) ?_
    have hPc := hP.sub (ws' := [(mo, .inr (7, [.int (nI 0), .int (nI by_), .ref abuf, .int (nI ks), .ref akey, .int (nI ts), .ref atwk, .int (nI rx), .int (nI mn), .ref arow, .ref abox, .ref awrd, .int (nI rd), .ref ablk, .ref amov, .int (nI za), .int (nI zb), .ref ahA, .ref ahB, .ref ahC, .ref anum, .ref amsg, .ref astr]))]) [0] rfl
    have hDc := hD.sub (ws' := [(mo, .inr (7, [.int (nI 0), .int (nI by_), .ref abuf, .int (nI ks), .ref akey, .int (nI ts), .ref atwk, .int (nI rx), .int (nI mn), .ref arow, .ref abox, .ref awrd, .int (nI rd), .ref ablk, .ref amov, .int (nI za), .int (nI zb), .ref ahA, .ref ahB, .ref ahC, .ref anum, .ref amsg, .ref astr]))]) [0] (by decide) rfl
    refine gv_callR (W.runV (As := [.int (nI 0), .int (nI 1)]) (rest := []) ⟨hx, hb, hml, hown, hts⟩ (c_X8_refuses_0 l dC dI cI H.size mo abuf akey atwk arow abox awrd ablk amov ahA ahB ahC anum amsg astr 0 by_ ks ts rx mn rd za zb 1 ) (cwV 2 hts gX8_turn_X8_refuses rfl rfl rfl (by decide +kernel) ⟨Nat.le_of_ble_eq_true rfl, Nat.le_of_ble_eq_true rfl⟩) ⟨gPc_blind, va_recv hK hPc (ci := 7) (q0 := 0) rfl rfl, gPc_pre hPc hK hDc⟩ rfl rfl hl.1 rfl (lv_room (Nat.le_of_ble_eq_true rfl)) dX8_turn_22 ⟨Nat.zero_le _, Nat.zero_le _⟩) ?_
    clear hPc hDc
    refine gv_if_ne (tgt := 49) hx hb dX8_turn_25 (by decide) (by omega) (fun c_25 => ?_) (fun c_25 => ?_)
    ·
      exact absurd c_25 (by decide)
    ·
      refine lv_aload_n hx hb dX8_turn_28 rfl (lv_at hl 0 rfl) ?_
      refine lv_aload_n hx hb dX8_turn_29 rfl (lv_at hl 0 rfl) ?_
      refine lv_iload_n hx hb dX8_turn_30 rfl (lv_at hl 1 rfl) ?_
      have hPc := hP.sub (ws' := [(mo, .inr (7, [.int (nI 0), .int (nI by_), .ref abuf, .int (nI ks), .ref akey, .int (nI ts), .ref atwk, .int (nI rx), .int (nI mn), .ref arow, .ref abox, .ref awrd, .int (nI rd), .ref ablk, .ref amov, .int (nI za), .int (nI zb), .ref ahA, .ref ahB, .ref ahC, .ref anum, .ref amsg, .ref astr])), (ahC, .inl (cI, 64, .inl (gA c0))), (anum, .inl (cI, 128, .inl (gA u0)))]) [0, 8, 9] rfl
      have hDc := hD.sub (ws' := [(mo, .inr (7, [.int (nI 0), .int (nI by_), .ref abuf, .int (nI ks), .ref akey, .int (nI ts), .ref atwk, .int (nI rx), .int (nI mn), .ref arow, .ref abox, .ref awrd, .int (nI rd), .ref ablk, .ref amov, .int (nI za), .int (nI zb), .ref ahA, .ref ahB, .ref ahC, .ref anum, .ref amsg, .ref astr])), (ahC, .inl (cI, 64, .inl (gA c0))), (anum, .inl (cI, 128, .inl (gA u0)))]) [0, 8, 9] (by decide) rfl
      have hFc := va_free (wc := [(mo, .inr (7, [.int (nI 0), .int (nI by_), .ref abuf, .int (nI ks), .ref akey, .int (nI ts), .ref atwk, .int (nI rx), .int (nI mn), .ref arow, .ref abox, .ref awrd, .int (nI rd), .ref ablk, .ref amov, .int (nI za), .int (nI zb), .ref ahA, .ref ahB, .ref ahC, .ref anum, .ref amsg, .ref astr])), (ahC, .inl (cI, 64, .inl (gA c0))), (anum, .inl (cI, 128, .inl (gA u0)))]) hD hS hA [0, 8, 9] rfl
      refine va_calli (va_runV (As := [.int (nI 1)]) (rest := [.ref mo]) ⟨hx, hb, hml, hown, hts⟩ (c_X8_canTurn_1 l dC dI cI H.size mo abuf akey atwk arow abox awrd ablk amov ahA ahB ahC anum amsg astr 0 by_ ks ts rx mn rd za zb c0 u0 (by omega) (by omega) (by omega) (by omega)) (cwV 1 hts gX8_turn_X8_canTurn rfl rfl rfl (by decide +kernel) ⟨Nat.le_of_ble_eq_true rfl, Nat.le_of_ble_eq_true rfl⟩) ⟨gPc_blind, va_recv hK hPc (ci := 7) (q0 := 0) rfl rfl, gPc_pre hPc hK hDc⟩ rfl rfl hl.1 rfl (lv_room (Nat.le_of_ble_eq_true rfl)) dX8_turn_31 ⟨Nat.zero_le _, Nat.zero_le _⟩) hS (fun q _ h => hFc q h) hFc (fun r9 u8 t8 H1 locs ht hvm hw hB hz1 hk1 hS => ?_)
      obtain ⟨c9_1, u9_1⟩ := u8
      try dsimp only at hw hB
      obtain ⟨hP, hD⟩ := gB_join (wr := [(arow, .inl (cI, 64, .inl (gA ro))), (akey, .inl (cI, 32, .inl (gA kb))), (atwk, .inl (cI, 32, .inl (gA tk))), (abox, .inl (cI, 256, .inl (gA bx))), (awrd, .inl (cI, 240, .inl (gA w0))), (ahA, .inl (cI, 64, .inl (gA a0))), (ahB, .inl (cI, 64, .inl (gA b0))), (amsg, .inl (cI, 128, .inl (gA m0))), (astr, .inl (cI, 128, .inl (gA s0))), (ablk, .inl (cI, 16, .inl (gA k0))), (amov, .inl (cI, 16, .inl (gA v0)))]) (w2 := [(arow, .inl (cI, 64, .inl (gA ro))), (akey, .inl (cI, 32, .inl (gA kb))), (atwk, .inl (cI, 32, .inl (gA tk))), (abox, .inl (cI, 256, .inl (gA bx))), (awrd, .inl (cI, 240, .inl (gA w0))), (ahA, .inl (cI, 64, .inl (gA a0))), (ahB, .inl (cI, 64, .inl (gA b0))), (amsg, .inl (cI, 128, .inl (gA m0))), (astr, .inl (cI, 128, .inl (gA s0))), (ablk, .inl (cI, 16, .inl (gA k0))), (amov, .inl (cI, 16, .inl (gA v0))), (mo, .inr (7, [.int (nI 0), .int (nI by_), .ref abuf, .int (nI ks), .ref akey, .int (nI ts), .ref atwk, .int (nI rx), .int (nI mn), .ref arow, .ref abox, .ref awrd, .int (nI rd), .ref ablk, .ref amov, .int (nI za), .int (nI zb), .ref ahA, .ref ahB, .ref ahC, .ref anum, .ref amsg, .ref astr])), (ahC, .inl (cI, 64, .inl (gA c9_1))), (anum, .inl (cI, 128, .inl (gA u9_1)))]) hP hD [0, 8, 9] [1, 2, 3, 4, 5, 6, 7, 10, 11, 12, 13] rfl rfl (by decide) (by decide) hk1 hFc ht hB rfl
      clear hk1 hz1 ht hB hvm hPc hDc hFc
      generalize H1 = H at hP hS ⊢
      subst hw
      refine gv_top (y := nI 1) (congrArg nI (if_pos hyes)) ?_
      refine gv_if_ne (tgt := 41) hx hb dX8_turn_34 (by decide) (by omega) (fun c_34 => ?_) (fun c_34 => ?_)
      ·
        refine lv_iconst (v := nI 0) hx hb dX8_turn_41 (by decide) ?_
        refine lv_iconst (v := nI 2) hx hb dX8_turn_42 (by decide) ?_
        have hPc := hP.sub (ws' := [(mo, .inr (7, [.int (nI 0), .int (nI by_), .ref abuf, .int (nI ks), .ref akey, .int (nI ts), .ref atwk, .int (nI rx), .int (nI mn), .ref arow, .ref abox, .ref awrd, .int (nI rd), .ref ablk, .ref amov, .int (nI za), .int (nI zb), .ref ahA, .ref ahB, .ref ahC, .ref anum, .ref amsg, .ref astr]))]) [11] rfl
        have hDc := hD.sub (ws' := [(mo, .inr (7, [.int (nI 0), .int (nI by_), .ref abuf, .int (nI ks), .ref akey, .int (nI ts), .ref atwk, .int (nI rx), .int (nI mn), .ref arow, .ref abox, .ref awrd, .int (nI rd), .ref ablk, .ref amov, .int (nI za), .int (nI zb), .ref ahA, .ref ahB, .ref ahC, .ref anum, .ref amsg, .ref astr]))]) [11] (by decide) rfl
        refine gv_callR (W.runV (As := [.int (nI 0), .int (nI 2)]) (rest := []) ⟨hx, hb, hml, hown, hts⟩ (c_X8_refuses_0 l dC dI cI H.size mo abuf akey atwk arow abox awrd ablk amov ahA ahB ahC anum amsg astr 0 by_ ks ts rx mn rd za zb 2 ) (cwV 2 hts gX8_turn_X8_refuses rfl rfl rfl (by decide +kernel) ⟨Nat.le_of_ble_eq_true rfl, Nat.le_of_ble_eq_true rfl⟩) ⟨gPc_blind, va_recv hK hPc (ci := 7) (q0 := 0) rfl rfl, gPc_pre hPc hK hDc⟩ rfl rfl hl.1 rfl (lv_room (Nat.le_of_ble_eq_true rfl)) dX8_turn_43 ⟨Nat.zero_le _, Nat.zero_le _⟩) ?_
        clear hPc hDc
        refine gv_if_eq (tgt := 50) hx hb dX8_turn_46 (by decide) (by omega) (fun c_46 => ?_) (fun c_46 => ?_)
        ·
          refine lv_iload_n hx hb dX8_turn_50 rfl (lv_at hl 1 rfl) ?_
          refine gv_if_ne (tgt := 62) hx hb dX8_turn_51 (by decide) (by omega) (fun c_51 => ?_) (fun c_51 => ?_)
          ·
            refine lv_aload_n hx hb dX8_turn_62 rfl (lv_at hl 0 rfl) ?_
            refine lv_iload_n hx hb dX8_turn_63 rfl (lv_at hl 2 rfl) ?_
            have hPc := hP.sub (ws' := [(mo, .inr (7, [.int (nI 0), .int (nI by_), .ref abuf, .int (nI ks), .ref akey, .int (nI ts), .ref atwk, .int (nI rx), .int (nI mn), .ref arow, .ref abox, .ref awrd, .int (nI rd), .ref ablk, .ref amov, .int (nI za), .int (nI zb), .ref ahA, .ref ahB, .ref ahC, .ref anum, .ref amsg, .ref astr])), (arow, .inl (cI, 64, .inl (gA ro))), (akey, .inl (cI, 32, .inl (gA kb))), (atwk, .inl (cI, 32, .inl (gA tk))), (abox, .inl (cI, 256, .inl (gA bx))), (awrd, .inl (cI, 240, .inl (gA w0))), (ahA, .inl (cI, 64, .inl (gA a0))), (ahB, .inl (cI, 64, .inl (gA b0))), (ahC, .inl (cI, 64, .inl (gA c9_1))), (anum, .inl (cI, 128, .inl (gA u9_1))), (amsg, .inl (cI, 128, .inl (gA m0))), (astr, .inl (cI, 128, .inl (gA s0))), (ablk, .inl (cI, 16, .inl (gA k0))), (amov, .inl (cI, 16, .inl (gA v0)))]) [11, 0, 1, 2, 3, 4, 5, 6, 12, 13, 7, 8, 9, 10] rfl
            have hDc := hD.sub (ws' := [(mo, .inr (7, [.int (nI 0), .int (nI by_), .ref abuf, .int (nI ks), .ref akey, .int (nI ts), .ref atwk, .int (nI rx), .int (nI mn), .ref arow, .ref abox, .ref awrd, .int (nI rd), .ref ablk, .ref amov, .int (nI za), .int (nI zb), .ref ahA, .ref ahB, .ref ahC, .ref anum, .ref amsg, .ref astr])), (arow, .inl (cI, 64, .inl (gA ro))), (akey, .inl (cI, 32, .inl (gA kb))), (atwk, .inl (cI, 32, .inl (gA tk))), (abox, .inl (cI, 256, .inl (gA bx))), (awrd, .inl (cI, 240, .inl (gA w0))), (ahA, .inl (cI, 64, .inl (gA a0))), (ahB, .inl (cI, 64, .inl (gA b0))), (ahC, .inl (cI, 64, .inl (gA c9_1))), (anum, .inl (cI, 128, .inl (gA u9_1))), (amsg, .inl (cI, 128, .inl (gA m0))), (astr, .inl (cI, 128, .inl (gA s0))), (ablk, .inl (cI, 16, .inl (gA k0))), (amov, .inl (cI, 16, .inl (gA v0)))]) [11, 0, 1, 2, 3, 4, 5, 6, 12, 13, 7, 8, 9, 10] (by decide) rfl
            have hFc := va_free (wc := [(mo, .inr (7, [.int (nI 0), .int (nI by_), .ref abuf, .int (nI ks), .ref akey, .int (nI ts), .ref atwk, .int (nI rx), .int (nI mn), .ref arow, .ref abox, .ref awrd, .int (nI rd), .ref ablk, .ref amov, .int (nI za), .int (nI zb), .ref ahA, .ref ahB, .ref ahC, .ref anum, .ref amsg, .ref astr])), (arow, .inl (cI, 64, .inl (gA ro))), (akey, .inl (cI, 32, .inl (gA kb))), (atwk, .inl (cI, 32, .inl (gA tk))), (abox, .inl (cI, 256, .inl (gA bx))), (awrd, .inl (cI, 240, .inl (gA w0))), (ahA, .inl (cI, 64, .inl (gA a0))), (ahB, .inl (cI, 64, .inl (gA b0))), (ahC, .inl (cI, 64, .inl (gA c9_1))), (anum, .inl (cI, 128, .inl (gA u9_1))), (amsg, .inl (cI, 128, .inl (gA m0))), (astr, .inl (cI, 128, .inl (gA s0))), (ablk, .inl (cI, 16, .inl (gA k0))), (amov, .inl (cI, 16, .inl (gA v0)))]) hD hS hA [11, 0, 1, 2, 3, 4, 5, 6, 12, 13, 7, 8, 9, 10] rfl
            refine va_callv (va_runV (As := [.int (nI 0)]) (rest := []) ⟨hx, hb, hml, hown, hts⟩ (c_X8_turnSecond_0 l dC dI cI H.size mo abuf akey atwk arow abox awrd ablk amov ahA ahB ahC anum amsg astr 0 by_ ks ts rx mn rd za zb ro kb tk bx w0 a0 b0 c9_1 u9_1 m0 s0 k0 v0 f tb Wk hks hkb hbx hWk hW hr1 hr2 hm1 hm2 htsz htk htb hd0 hro) (cwV 1 hts gX8_turn_X8_turnSecond rfl rfl rfl (by decide +kernel) ⟨Nat.le_of_ble_eq_true rfl, Nat.le_of_ble_eq_true rfl⟩) ⟨gPc_blind, va_recv hK hPc (ci := 7) (q0 := 0) rfl rfl, gPc_pre hPc hK hDc⟩ rfl rfl hl.1 rfl (lv_room (Nat.le_of_ble_eq_true rfl)) dX8_turn_64 ⟨Nat.zero_le _, Nat.zero_le _⟩) hS (fun q _ h => hFc q h) hFc (fun u8 t8 H1 locs ht hvm hw hB hz1 hk1 hS => ?_)
            obtain ⟨za9_2, zb9_2, r9_2, w9_2, a9_2, b9_2, c9_2, u9_2, m9_2, s9_2, k9_2, v9_2⟩ := u8
            try dsimp only at hw hB
            obtain ⟨hP, hD⟩ := gB_join (wr := []) (w2 := [(mo, .inr (7, [.int (nI 0), .int (nI by_), .ref abuf, .int (nI ks), .ref akey, .int (nI ts), .ref atwk, .int (nI rx), .int (nI mn), .ref arow, .ref abox, .ref awrd, .int (nI (ks / 4 + 6)), .ref ablk, .ref amov, .int (nI za9_2), .int (nI zb9_2), .ref ahA, .ref ahB, .ref ahC, .ref anum, .ref amsg, .ref astr])), (arow, .inl (cI, 64, .inl (gA r9_2))), (akey, .inl (cI, 32, .inl (gA kb))), (atwk, .inl (cI, 32, .inl (gA tk))), (abox, .inl (cI, 256, .inl (gA bx))), (awrd, .inl (cI, 240, .inl (gA w9_2))), (ahA, .inl (cI, 64, .inl (gA a9_2))), (ahB, .inl (cI, 64, .inl (gA b9_2))), (ahC, .inl (cI, 64, .inl (gA c9_2))), (anum, .inl (cI, 128, .inl (gA u9_2))), (amsg, .inl (cI, 128, .inl (gA m9_2))), (astr, .inl (cI, 128, .inl (gA s9_2))), (ablk, .inl (cI, 16, .inl (gA k9_2))), (amov, .inl (cI, 16, .inl (gA v9_2)))]) hP hD [11, 0, 1, 2, 3, 4, 5, 6, 12, 13, 7, 8, 9, 10] [] rfl rfl (by decide) (by decide) hk1 hFc ht hB rfl
            clear hk1 hz1 ht hB hvm hPc hDc hFc
            generalize H1 = H at hP hS ⊢
            have hr9 := hw
            exact W.vret hx hb hr (fun t ht hW => ⟨⟨(za9_2, zb9_2, r9_2, w9_2, a9_2, b9_2, c9_2, u9_2, m9_2, s9_2, k9_2, v9_2), rfl, hr9, gB_end ht hW hP hK hD⟩, hS.F ht⟩) hS.2.2 dX8_turn_67
          ·
            exact absurd c_51 (by decide)
        ·
          exact absurd c_46 (by decide)
      ·
        exact absurd c_34 (by decide)
  ·
    exact absurd c_13 (by decide)

set_option maxHeartbeats 4000000 in
set_option maxRecDepth 100000 in
/-- turn: 11 -/
theorem c_X8_turn_11 (l : Launch) (dC : Nat → ClassId) (dI : Nat → Nat → Nat) (cI : ClassId) (sz : Nat) (mo : Nat) (abuf : Nat) (akey : Nat) (atwk : Nat) (arow : Nat) (abox : Nat) (awrd : Nat) (ablk : Nat) (amov : Nat) (ahA : Nat) (ahB : Nat) (ahC : Nat) (anum : Nat) (amsg : Nat) (astr : Nat) (th : Nat) (by_ : Nat) (ks : Nat) (ts : Nat) (rx : Nat) (mn : Nat) (rd : Nat) (za : Nat) (zb : Nat) (ro : Nat → Nat) (kb : Nat → Nat) (tk : Nat → Nat) (bx : Nat → Nat) (w0 : Nat → Nat) (a0 : Nat → Nat) (b0 : Nat → Nat) (c0 : Nat → Nat) (u0 : Nat → Nat) (m0 : Nat → Nat) (s0 : Nat → Nat) (k0 : Nat → Nat) (v0 : Nat → Nat) (f : Nat → Nat) (tb : Nat → Nat) (Wk : Nat → Nat) (hks : ks = 16 ∨ ks = 24 ∨ ks = 32) (hkb : ∀ q, q < 32 → kb q < 256) (hbx : ∀ q, q < 256 → bx q = sB q) (hWk : ∀ q, q < 16 * (ks / 4 + 7) → ksS (keyK 1 kb (ks / 4)) (ks / 4) (3 * (ks / 4) + 28) q = Wk q) (hW : ∀ j, j < 16 * (ks / 4 + 6 + 1) → Wk j < 256) (hr1 : 2 ≤ rx) (hr2 : rx ≤ 65536) (hm2 : mn ≤ 64) (htk : ∀ j, j < ts → tk j = tb j) (htb : ∀ j, j < 64 → tb j < 256) (hd0 : ∀ q, q < mn → f q < rx) (hro : ∀ q, q < mn → ro q = f q) (hts7 : ts ≤ 64) (hyes : (2 ≤ mn ∧ 1000000 ≤ rx ^ mn) ∧ (ts = 7 ∧ bl (rx ^ (mn - mn / 2) - 1) ≤ 12)) : Met l yX8_turn wsX8_turn ({ frames := 3, cells := 0, slots := 0, locals := 84 }) (gPc dC dI cI [.ref mo, .int (nI 1), .int (nI 1)] [(mo, .inr (7, [.int (nI th), .int (nI by_), .ref abuf, .int (nI ks), .ref akey, .int (nI ts), .ref atwk, .int (nI rx), .int (nI mn), .ref arow, .ref abox, .ref awrd, .int (nI rd), .ref ablk, .ref amov, .int (nI za), .int (nI zb), .ref ahA, .ref ahB, .ref ahC, .ref anum, .ref amsg, .ref astr])), (arow, .inl (cI, 64, .inl (gA ro))), (akey, .inl (cI, 32, .inl (gA kb))), (atwk, .inl (cI, 32, .inl (gA tk))), (abox, .inl (cI, 256, .inl (gA bx))), (awrd, .inl (cI, 240, .inl (gA w0))), (ahA, .inl (cI, 64, .inl (gA a0))), (ahB, .inl (cI, 64, .inl (gA b0))), (ahC, .inl (cI, 64, .inl (gA c0))), (anum, .inl (cI, 128, .inl (gA u0))), (amsg, .inl (cI, 128, .inl (gA m0))), (astr, .inl (cI, 128, .inl (gA s0))), (ablk, .inl (cI, 16, .inl (gA k0))), (amov, .inl (cI, 16, .inl (gA v0)))] sz) (va_Qv (fun u : Nat × Nat × (Nat → Nat) × (Nat → Nat) × (Nat → Nat) × (Nat → Nat) × (Nat → Nat) × (Nat → Nat) × (Nat → Nat) × (Nat → Nat) × (Nat → Nat) × (Nat → Nat) => (∀ q, q < mn → u.2.2.1 q = fei (FF3 Wk (ks / 4 + 6) tb) 1 (mn - mn / 2) (mn - (mn - mn / 2)) 1 rx 8 f 8 q)) (fun u t => gB dC dI cI (va_A [(mo, .inr (7, [.int (nI th), .int (nI by_), .ref abuf, .int (nI ks), .ref akey, .int (nI ts), .ref atwk, .int (nI rx), .int (nI mn), .ref arow, .ref abox, .ref awrd, .int (nI rd), .ref ablk, .ref amov, .int (nI za), .int (nI zb), .ref ahA, .ref ahB, .ref ahC, .ref anum, .ref amsg, .ref astr])), (arow, .inl (cI, 64, .inl (gA ro))), (akey, .inl (cI, 32, .inl (gA kb))), (atwk, .inl (cI, 32, .inl (gA tk))), (abox, .inl (cI, 256, .inl (gA bx))), (awrd, .inl (cI, 240, .inl (gA w0))), (ahA, .inl (cI, 64, .inl (gA a0))), (ahB, .inl (cI, 64, .inl (gA b0))), (ahC, .inl (cI, 64, .inl (gA c0))), (anum, .inl (cI, 128, .inl (gA u0))), (amsg, .inl (cI, 128, .inl (gA m0))), (astr, .inl (cI, 128, .inl (gA s0))), (ablk, .inl (cI, 16, .inl (gA k0))), (amov, .inl (cI, 16, .inl (gA v0)))] sz) [(mo, .inr (7, [.int (nI 0), .int (nI by_), .ref abuf, .int (nI ks), .ref akey, .int (nI ts), .ref atwk, .int (nI rx), .int (nI mn), .ref arow, .ref abox, .ref awrd, .int (nI (ks / 4 + 6)), .ref ablk, .ref amov, .int (nI u.1), .int (nI u.2.1), .ref ahA, .ref ahB, .ref ahC, .ref anum, .ref amsg, .ref astr])), (arow, .inl (cI, 64, .inl (gA u.2.2.1))), (akey, .inl (cI, 32, .inl (gA kb))), (atwk, .inl (cI, 32, .inl (gA tk))), (abox, .inl (cI, 256, .inl (gA bx))), (awrd, .inl (cI, 240, .inl (gA u.2.2.2.1))), (ahA, .inl (cI, 64, .inl (gA u.2.2.2.2.1))), (ahB, .inl (cI, 64, .inl (gA u.2.2.2.2.2.1))), (ahC, .inl (cI, 64, .inl (gA u.2.2.2.2.2.2.1))), (anum, .inl (cI, 128, .inl (gA u.2.2.2.2.2.2.2.1))), (amsg, .inl (cI, 128, .inl (gA u.2.2.2.2.2.2.2.2.1))), (astr, .inl (cI, 128, .inl (gA u.2.2.2.2.2.2.2.2.2.1))), (ablk, .inl (cI, 16, .inl (gA u.2.2.2.2.2.2.2.2.2.2.1))), (amov, .inl (cI, 16, .inl (gA u.2.2.2.2.2.2.2.2.2.2.2)))] t) (va_A [(mo, .inr (7, [.int (nI th), .int (nI by_), .ref abuf, .int (nI ks), .ref akey, .int (nI ts), .ref atwk, .int (nI rx), .int (nI mn), .ref arow, .ref abox, .ref awrd, .int (nI rd), .ref ablk, .ref amov, .int (nI za), .int (nI zb), .ref ahA, .ref ahB, .ref ahC, .ref anum, .ref amsg, .ref astr])), (arow, .inl (cI, 64, .inl (gA ro))), (akey, .inl (cI, 32, .inl (gA kb))), (atwk, .inl (cI, 32, .inl (gA tk))), (abox, .inl (cI, 256, .inl (gA bx))), (awrd, .inl (cI, 240, .inl (gA w0))), (ahA, .inl (cI, 64, .inl (gA a0))), (ahB, .inl (cI, 64, .inl (gA b0))), (ahC, .inl (cI, 64, .inl (gA c0))), (anum, .inl (cI, 128, .inl (gA u0))), (amsg, .inl (cI, 128, .inl (gA m0))), (astr, .inl (cI, 128, .inl (gA s0))), (ablk, .inl (cI, 16, .inl (gA k0))), (amov, .inl (cI, 16, .inl (gA v0)))] sz)) 0 0 (va_A [(mo, .inr (7, [.int (nI th), .int (nI by_), .ref abuf, .int (nI ks), .ref akey, .int (nI ts), .ref atwk, .int (nI rx), .int (nI mn), .ref arow, .ref abox, .ref awrd, .int (nI rd), .ref ablk, .ref amov, .int (nI za), .int (nI zb), .ref ahA, .ref ahB, .ref ahC, .ref anum, .ref amsg, .ref astr])), (arow, .inl (cI, 64, .inl (gA ro))), (akey, .inl (cI, 32, .inl (gA kb))), (atwk, .inl (cI, 32, .inl (gA tk))), (abox, .inl (cI, 256, .inl (gA bx))), (awrd, .inl (cI, 240, .inl (gA w0))), (ahA, .inl (cI, 64, .inl (gA a0))), (ahB, .inl (cI, 64, .inl (gA b0))), (ahC, .inl (cI, 64, .inl (gA c0))), (anum, .inl (cI, 128, .inl (gA u0))), (amsg, .inl (cI, 128, .inl (gA m0))), (astr, .inl (cI, 128, .inl (gA s0))), (ablk, .inl (cI, 16, .inl (gA k0))), (amov, .inl (cI, 16, .inl (gA v0)))] sz) := by
  refine Met.ofW (cc := cX8_turn) (maxL := 3) (ret := none) (by decide) rfl ?_
  intro p e s m args below meth c s₁ B9 hml hv
  obtain ⟨rfl, hsz, ⟨hP, hK, hD0⟩⟩ := hv
  have hx := B9.exec
  have hb := B9.bytes
  have hr := B9.returns
  have hts := atoms_spec (ws := wsX8_turn) B9.pre
  have hown : s.vm.findClass RX8 = some m.cls := findClass_of_methodNamed B9.named
  have hlocks := B9.notSynchronized
  subst hsz
  have hD := hD0.self (sz := s.heap.size)
  generalize hAe : va_A [(mo, .inr (7, [.int (nI th), .int (nI by_), .ref abuf, .int (nI ks), .ref akey, .int (nI ts), .ref atwk, .int (nI rx), .int (nI mn), .ref arow, .ref abox, .ref awrd, .int (nI rd), .ref ablk, .ref amov, .int (nI za), .int (nI zb), .ref ahA, .ref ahB, .ref ahC, .ref anum, .ref amsg, .ref astr])), (arow, .inl (cI, 64, .inl (gA ro))), (akey, .inl (cI, 32, .inl (gA kb))), (atwk, .inl (cI, 32, .inl (gA tk))), (abox, .inl (cI, 256, .inl (gA bx))), (awrd, .inl (cI, 240, .inl (gA w0))), (ahA, .inl (cI, 64, .inl (gA a0))), (ahB, .inl (cI, 64, .inl (gA b0))), (ahC, .inl (cI, 64, .inl (gA c0))), (anum, .inl (cI, 128, .inl (gA u0))), (amsg, .inl (cI, 128, .inl (gA m0))), (astr, .inl (cI, 128, .inl (gA s0))), (ablk, .inl (cI, 16, .inl (gA k0))), (amov, .inl (cI, 16, .inl (gA v0)))] s.heap.size = A at hD ⊢
  have hA : ∀ q : Nat, s.heap.size ≤ q → A q := fun q h => by rw [← hAe]; exact Or.inr h
  have hS : va_S A s.heap s.heap [] := va_S.rf
  have hl := lv_entry ([.ref mo, .int (nI 1), .int (nI 1)]) (n := 3) (Nat.le_of_ble_eq_true rfl)
  rw [lg_entry_eq]
  generalize (lg_sl ([.ref mo, .int (nI 1), .int (nI 1)]) ++ List.replicate (3 - (lg_sl ([.ref mo, .int (nI 1), .int (nI 1)])).length) Slot.unset).toArray = ls at hl ⊢
  have hl : lv_has ls 3 [(0, .ref mo), (1, .int (nI 1)), (2, .int (nI 1))] := hl
  have hm1 : 2 ≤ mn := hyes.1.1
  have htsz : ts = 7 := hyes.2.1
  refine lv_aload_n hx hb dX8_turn_0 rfl (lv_at hl 0 rfl) ?_
  refine lv_iconst (v := nI 0) hx hb dX8_turn_1 (by decide) ?_
  refine gv_put (own := RX8) (D := (dC, dI)) (ci := 7) (C := RX8) (T := TX8) (N := 23) (ws' := [(mo, .inr (7, [.int (nI 0), .int (nI by_), .ref abuf, .int (nI ks), .ref akey, .int (nI ts), .ref atwk, .int (nI rx), .int (nI mn), .ref arow, .ref abox, .ref awrd, .int (nI rd), .ref ablk, .ref amov, .int (nI za), .int (nI zb), .ref ahA, .ref ahB, .ref ahC, .ref anum, .ref amsg, .ref astr])), (arow, .inl (cI, 64, .inl (gA ro))), (akey, .inl (cI, 32, .inl (gA kb))), (atwk, .inl (cI, 32, .inl (gA tk))), (abox, .inl (cI, 256, .inl (gA bx))), (awrd, .inl (cI, 240, .inl (gA w0))), (ahA, .inl (cI, 64, .inl (gA a0))), (ahB, .inl (cI, 64, .inl (gA b0))), (ahC, .inl (cI, 64, .inl (gA c0))), (anum, .inl (cI, 128, .inl (gA u0))), (amsg, .inl (cI, 128, .inl (gA m0))), (astr, .inl (cI, 128, .inl (gA s0))), (ablk, .inl (cI, 16, .inl (gA k0))), (amov, .inl (cI, 16, .inl (gA v0)))]) hx hb hts (by decide +kernel) tyX8 tyX8_ok nmX8 hown hK hP hD hS 0 rfl rfl 0 (by decide) (hts (.fieldLink RX8 63 "NumeralCipherModel" "thrown" "I") (by decide +kernel)) rfl rfl (by decide +kernel) (Nat.le_of_ble_eq_true rfl) rfl dX8_turn_2 (fun H locs hP hD hS => ?_)
  refine lv_aload_n hx hb dX8_turn_5 rfl (lv_at hl 0 rfl) ?_
  refine lv_iload_n hx hb dX8_turn_6 rfl (lv_at hl 1 rfl) ?_
  refine lv_i2l (v := lN 1) hx hb dX8_turn_7 (nI_l (by omega)) ?_
  refine lv_lconst (v := lN 0) hx hb dX8_turn_8 (by decide) ?_
  refine lv_lconst (v := lN 1) hx hb dX8_turn_9 (by decide) ?_
  refine gv_callR (W.runS (As := [.long (lN 1), .long (lN 0), .long (lN 1)]) (rest := [.ref mo]) ⟨hx, hb, hml, hown, hts⟩ (c_X8_in_1 l (lN 1) (lN 0) (lN 1) ((in_nat (v := 1) (a := 0) (b := 1) (by omega) (by omega) (by omega)).1) ((in_nat (v := 1) (a := 0) (b := 1) (by omega) (by omega) (by omega)).2)) (va_cwS 3 hts gX8_turn_X8_in rfl rfl rfl (by decide +kernel) ⟨Nat.le_of_ble_eq_true rfl, Nat.le_of_ble_eq_true rfl⟩) ⟨fun a U g mk q => q, fun U hU hW => ⟨rfl, trivial⟩⟩ rfl rfl hl.1 rfl (lv_room (Nat.le_of_ble_eq_true rfl)) dX8_turn_10 ⟨Nat.zero_le _, Nat.zero_le _⟩) ?_
  refine gv_if_ne (tgt := 20) hx hb dX8_turn_13 (by decide) (by omega) (fun c_13 => ?_) (fun c_13 => ?_)
  ·
    refine lv_iconst (v := nI 0) hx hb dX8_turn_20 (by decide) ?_
    refine lv_iconst (v := nI 1) hx hb dX8_turn_21 (by decide) ?_
    have hPc := hP.sub (ws' := [(mo, .inr (7, [.int (nI 0), .int (nI by_), .ref abuf, .int (nI ks), .ref akey, .int (nI ts), .ref atwk, .int (nI rx), .int (nI mn), .ref arow, .ref abox, .ref awrd, .int (nI rd), .ref ablk, .ref amov, .int (nI za), .int (nI zb), .ref ahA, .ref ahB, .ref ahC, .ref anum, .ref amsg, .ref astr]))]) [0] rfl
    have hDc := hD.sub (ws' := [(mo, .inr (7, [.int (nI 0), .int (nI by_), .ref abuf, .int (nI ks), .ref akey, .int (nI ts), .ref atwk, .int (nI rx), .int (nI mn), .ref arow, .ref abox, .ref awrd, .int (nI rd), .ref ablk, .ref amov, .int (nI za), .int (nI zb), .ref ahA, .ref ahB, .ref ahC, .ref anum, .ref amsg, .ref astr]))]) [0] (by decide) rfl
    refine gv_callR (W.runV (As := [.int (nI 0), .int (nI 1)]) (rest := []) ⟨hx, hb, hml, hown, hts⟩ (c_X8_refuses_0 l dC dI cI H.size mo abuf akey atwk arow abox awrd ablk amov ahA ahB ahC anum amsg astr 0 by_ ks ts rx mn rd za zb 1 ) (cwV 2 hts gX8_turn_X8_refuses rfl rfl rfl (by decide +kernel) ⟨Nat.le_of_ble_eq_true rfl, Nat.le_of_ble_eq_true rfl⟩) ⟨gPc_blind, va_recv hK hPc (ci := 7) (q0 := 0) rfl rfl, gPc_pre hPc hK hDc⟩ rfl rfl hl.1 rfl (lv_room (Nat.le_of_ble_eq_true rfl)) dX8_turn_22 ⟨Nat.zero_le _, Nat.zero_le _⟩) ?_
    clear hPc hDc
    refine gv_if_ne (tgt := 49) hx hb dX8_turn_25 (by decide) (by omega) (fun c_25 => ?_) (fun c_25 => ?_)
    ·
      exact absurd c_25 (by decide)
    ·
      refine lv_aload_n hx hb dX8_turn_28 rfl (lv_at hl 0 rfl) ?_
      refine lv_aload_n hx hb dX8_turn_29 rfl (lv_at hl 0 rfl) ?_
      refine lv_iload_n hx hb dX8_turn_30 rfl (lv_at hl 1 rfl) ?_
      have hPc := hP.sub (ws' := [(mo, .inr (7, [.int (nI 0), .int (nI by_), .ref abuf, .int (nI ks), .ref akey, .int (nI ts), .ref atwk, .int (nI rx), .int (nI mn), .ref arow, .ref abox, .ref awrd, .int (nI rd), .ref ablk, .ref amov, .int (nI za), .int (nI zb), .ref ahA, .ref ahB, .ref ahC, .ref anum, .ref amsg, .ref astr])), (ahC, .inl (cI, 64, .inl (gA c0))), (anum, .inl (cI, 128, .inl (gA u0)))]) [0, 8, 9] rfl
      have hDc := hD.sub (ws' := [(mo, .inr (7, [.int (nI 0), .int (nI by_), .ref abuf, .int (nI ks), .ref akey, .int (nI ts), .ref atwk, .int (nI rx), .int (nI mn), .ref arow, .ref abox, .ref awrd, .int (nI rd), .ref ablk, .ref amov, .int (nI za), .int (nI zb), .ref ahA, .ref ahB, .ref ahC, .ref anum, .ref amsg, .ref astr])), (ahC, .inl (cI, 64, .inl (gA c0))), (anum, .inl (cI, 128, .inl (gA u0)))]) [0, 8, 9] (by decide) rfl
      have hFc := va_free (wc := [(mo, .inr (7, [.int (nI 0), .int (nI by_), .ref abuf, .int (nI ks), .ref akey, .int (nI ts), .ref atwk, .int (nI rx), .int (nI mn), .ref arow, .ref abox, .ref awrd, .int (nI rd), .ref ablk, .ref amov, .int (nI za), .int (nI zb), .ref ahA, .ref ahB, .ref ahC, .ref anum, .ref amsg, .ref astr])), (ahC, .inl (cI, 64, .inl (gA c0))), (anum, .inl (cI, 128, .inl (gA u0)))]) hD hS hA [0, 8, 9] rfl
      refine va_calli (va_runV (As := [.int (nI 1)]) (rest := [.ref mo]) ⟨hx, hb, hml, hown, hts⟩ (c_X8_canTurn_1 l dC dI cI H.size mo abuf akey atwk arow abox awrd ablk amov ahA ahB ahC anum amsg astr 0 by_ ks ts rx mn rd za zb c0 u0 (by omega) (by omega) (by omega) (by omega)) (cwV 1 hts gX8_turn_X8_canTurn rfl rfl rfl (by decide +kernel) ⟨Nat.le_of_ble_eq_true rfl, Nat.le_of_ble_eq_true rfl⟩) ⟨gPc_blind, va_recv hK hPc (ci := 7) (q0 := 0) rfl rfl, gPc_pre hPc hK hDc⟩ rfl rfl hl.1 rfl (lv_room (Nat.le_of_ble_eq_true rfl)) dX8_turn_31 ⟨Nat.zero_le _, Nat.zero_le _⟩) hS (fun q _ h => hFc q h) hFc (fun r9 u8 t8 H1 locs ht hvm hw hB hz1 hk1 hS => ?_)
      obtain ⟨c9_1, u9_1⟩ := u8
      try dsimp only at hw hB
      obtain ⟨hP, hD⟩ := gB_join (wr := [(arow, .inl (cI, 64, .inl (gA ro))), (akey, .inl (cI, 32, .inl (gA kb))), (atwk, .inl (cI, 32, .inl (gA tk))), (abox, .inl (cI, 256, .inl (gA bx))), (awrd, .inl (cI, 240, .inl (gA w0))), (ahA, .inl (cI, 64, .inl (gA a0))), (ahB, .inl (cI, 64, .inl (gA b0))), (amsg, .inl (cI, 128, .inl (gA m0))), (astr, .inl (cI, 128, .inl (gA s0))), (ablk, .inl (cI, 16, .inl (gA k0))), (amov, .inl (cI, 16, .inl (gA v0)))]) (w2 := [(arow, .inl (cI, 64, .inl (gA ro))), (akey, .inl (cI, 32, .inl (gA kb))), (atwk, .inl (cI, 32, .inl (gA tk))), (abox, .inl (cI, 256, .inl (gA bx))), (awrd, .inl (cI, 240, .inl (gA w0))), (ahA, .inl (cI, 64, .inl (gA a0))), (ahB, .inl (cI, 64, .inl (gA b0))), (amsg, .inl (cI, 128, .inl (gA m0))), (astr, .inl (cI, 128, .inl (gA s0))), (ablk, .inl (cI, 16, .inl (gA k0))), (amov, .inl (cI, 16, .inl (gA v0))), (mo, .inr (7, [.int (nI 0), .int (nI by_), .ref abuf, .int (nI ks), .ref akey, .int (nI ts), .ref atwk, .int (nI rx), .int (nI mn), .ref arow, .ref abox, .ref awrd, .int (nI rd), .ref ablk, .ref amov, .int (nI za), .int (nI zb), .ref ahA, .ref ahB, .ref ahC, .ref anum, .ref amsg, .ref astr])), (ahC, .inl (cI, 64, .inl (gA c9_1))), (anum, .inl (cI, 128, .inl (gA u9_1)))]) hP hD [0, 8, 9] [1, 2, 3, 4, 5, 6, 7, 10, 11, 12, 13] rfl rfl (by decide) (by decide) hk1 hFc ht hB rfl
      clear hk1 hz1 ht hB hvm hPc hDc hFc
      generalize H1 = H at hP hS ⊢
      subst hw
      refine gv_top (y := nI 1) (congrArg nI (if_pos hyes)) ?_
      refine gv_if_ne (tgt := 41) hx hb dX8_turn_34 (by decide) (by omega) (fun c_34 => ?_) (fun c_34 => ?_)
      ·
        refine lv_iconst (v := nI 0) hx hb dX8_turn_41 (by decide) ?_
        refine lv_iconst (v := nI 2) hx hb dX8_turn_42 (by decide) ?_
        have hPc := hP.sub (ws' := [(mo, .inr (7, [.int (nI 0), .int (nI by_), .ref abuf, .int (nI ks), .ref akey, .int (nI ts), .ref atwk, .int (nI rx), .int (nI mn), .ref arow, .ref abox, .ref awrd, .int (nI rd), .ref ablk, .ref amov, .int (nI za), .int (nI zb), .ref ahA, .ref ahB, .ref ahC, .ref anum, .ref amsg, .ref astr]))]) [11] rfl
        have hDc := hD.sub (ws' := [(mo, .inr (7, [.int (nI 0), .int (nI by_), .ref abuf, .int (nI ks), .ref akey, .int (nI ts), .ref atwk, .int (nI rx), .int (nI mn), .ref arow, .ref abox, .ref awrd, .int (nI rd), .ref ablk, .ref amov, .int (nI za), .int (nI zb), .ref ahA, .ref ahB, .ref ahC, .ref anum, .ref amsg, .ref astr]))]) [11] (by decide) rfl
        refine gv_callR (W.runV (As := [.int (nI 0), .int (nI 2)]) (rest := []) ⟨hx, hb, hml, hown, hts⟩ (c_X8_refuses_0 l dC dI cI H.size mo abuf akey atwk arow abox awrd ablk amov ahA ahB ahC anum amsg astr 0 by_ ks ts rx mn rd za zb 2 ) (cwV 2 hts gX8_turn_X8_refuses rfl rfl rfl (by decide +kernel) ⟨Nat.le_of_ble_eq_true rfl, Nat.le_of_ble_eq_true rfl⟩) ⟨gPc_blind, va_recv hK hPc (ci := 7) (q0 := 0) rfl rfl, gPc_pre hPc hK hDc⟩ rfl rfl hl.1 rfl (lv_room (Nat.le_of_ble_eq_true rfl)) dX8_turn_43 ⟨Nat.zero_le _, Nat.zero_le _⟩) ?_
        clear hPc hDc
        refine gv_if_eq (tgt := 50) hx hb dX8_turn_46 (by decide) (by omega) (fun c_46 => ?_) (fun c_46 => ?_)
        ·
          refine lv_iload_n hx hb dX8_turn_50 rfl (lv_at hl 1 rfl) ?_
          refine gv_if_ne (tgt := 62) hx hb dX8_turn_51 (by decide) (by omega) (fun c_51 => ?_) (fun c_51 => ?_)
          ·
            refine lv_aload_n hx hb dX8_turn_62 rfl (lv_at hl 0 rfl) ?_
            refine lv_iload_n hx hb dX8_turn_63 rfl (lv_at hl 2 rfl) ?_
            have hPc := hP.sub (ws' := [(mo, .inr (7, [.int (nI 0), .int (nI by_), .ref abuf, .int (nI ks), .ref akey, .int (nI ts), .ref atwk, .int (nI rx), .int (nI mn), .ref arow, .ref abox, .ref awrd, .int (nI rd), .ref ablk, .ref amov, .int (nI za), .int (nI zb), .ref ahA, .ref ahB, .ref ahC, .ref anum, .ref amsg, .ref astr])), (arow, .inl (cI, 64, .inl (gA ro))), (akey, .inl (cI, 32, .inl (gA kb))), (atwk, .inl (cI, 32, .inl (gA tk))), (abox, .inl (cI, 256, .inl (gA bx))), (awrd, .inl (cI, 240, .inl (gA w0))), (ahA, .inl (cI, 64, .inl (gA a0))), (ahB, .inl (cI, 64, .inl (gA b0))), (ahC, .inl (cI, 64, .inl (gA c9_1))), (anum, .inl (cI, 128, .inl (gA u9_1))), (amsg, .inl (cI, 128, .inl (gA m0))), (astr, .inl (cI, 128, .inl (gA s0))), (ablk, .inl (cI, 16, .inl (gA k0))), (amov, .inl (cI, 16, .inl (gA v0)))]) [11, 0, 1, 2, 3, 4, 5, 6, 12, 13, 7, 8, 9, 10] rfl
            have hDc := hD.sub (ws' := [(mo, .inr (7, [.int (nI 0), .int (nI by_), .ref abuf, .int (nI ks), .ref akey, .int (nI ts), .ref atwk, .int (nI rx), .int (nI mn), .ref arow, .ref abox, .ref awrd, .int (nI rd), .ref ablk, .ref amov, .int (nI za), .int (nI zb), .ref ahA, .ref ahB, .ref ahC, .ref anum, .ref amsg, .ref astr])), (arow, .inl (cI, 64, .inl (gA ro))), (akey, .inl (cI, 32, .inl (gA kb))), (atwk, .inl (cI, 32, .inl (gA tk))), (abox, .inl (cI, 256, .inl (gA bx))), (awrd, .inl (cI, 240, .inl (gA w0))), (ahA, .inl (cI, 64, .inl (gA a0))), (ahB, .inl (cI, 64, .inl (gA b0))), (ahC, .inl (cI, 64, .inl (gA c9_1))), (anum, .inl (cI, 128, .inl (gA u9_1))), (amsg, .inl (cI, 128, .inl (gA m0))), (astr, .inl (cI, 128, .inl (gA s0))), (ablk, .inl (cI, 16, .inl (gA k0))), (amov, .inl (cI, 16, .inl (gA v0)))]) [11, 0, 1, 2, 3, 4, 5, 6, 12, 13, 7, 8, 9, 10] (by decide) rfl
            have hFc := va_free (wc := [(mo, .inr (7, [.int (nI 0), .int (nI by_), .ref abuf, .int (nI ks), .ref akey, .int (nI ts), .ref atwk, .int (nI rx), .int (nI mn), .ref arow, .ref abox, .ref awrd, .int (nI rd), .ref ablk, .ref amov, .int (nI za), .int (nI zb), .ref ahA, .ref ahB, .ref ahC, .ref anum, .ref amsg, .ref astr])), (arow, .inl (cI, 64, .inl (gA ro))), (akey, .inl (cI, 32, .inl (gA kb))), (atwk, .inl (cI, 32, .inl (gA tk))), (abox, .inl (cI, 256, .inl (gA bx))), (awrd, .inl (cI, 240, .inl (gA w0))), (ahA, .inl (cI, 64, .inl (gA a0))), (ahB, .inl (cI, 64, .inl (gA b0))), (ahC, .inl (cI, 64, .inl (gA c9_1))), (anum, .inl (cI, 128, .inl (gA u9_1))), (amsg, .inl (cI, 128, .inl (gA m0))), (astr, .inl (cI, 128, .inl (gA s0))), (ablk, .inl (cI, 16, .inl (gA k0))), (amov, .inl (cI, 16, .inl (gA v0)))]) hD hS hA [11, 0, 1, 2, 3, 4, 5, 6, 12, 13, 7, 8, 9, 10] rfl
            refine va_callv (va_runV (As := [.int (nI 1)]) (rest := []) ⟨hx, hb, hml, hown, hts⟩ (c_X8_turnSecond_1 l dC dI cI H.size mo abuf akey atwk arow abox awrd ablk amov ahA ahB ahC anum amsg astr 0 by_ ks ts rx mn rd za zb ro kb tk bx w0 a0 b0 c9_1 u9_1 m0 s0 k0 v0 f tb Wk hks hkb hbx hWk hW hr1 hr2 hm1 hm2 htsz htk htb hd0 hro) (cwV 1 hts gX8_turn_X8_turnSecond rfl rfl rfl (by decide +kernel) ⟨Nat.le_of_ble_eq_true rfl, Nat.le_of_ble_eq_true rfl⟩) ⟨gPc_blind, va_recv hK hPc (ci := 7) (q0 := 0) rfl rfl, gPc_pre hPc hK hDc⟩ rfl rfl hl.1 rfl (lv_room (Nat.le_of_ble_eq_true rfl)) dX8_turn_64 ⟨Nat.zero_le _, Nat.zero_le _⟩) hS (fun q _ h => hFc q h) hFc (fun u8 t8 H1 locs ht hvm hw hB hz1 hk1 hS => ?_)
            obtain ⟨za9_2, zb9_2, r9_2, w9_2, a9_2, b9_2, c9_2, u9_2, m9_2, s9_2, k9_2, v9_2⟩ := u8
            try dsimp only at hw hB
            obtain ⟨hP, hD⟩ := gB_join (wr := []) (w2 := [(mo, .inr (7, [.int (nI 0), .int (nI by_), .ref abuf, .int (nI ks), .ref akey, .int (nI ts), .ref atwk, .int (nI rx), .int (nI mn), .ref arow, .ref abox, .ref awrd, .int (nI (ks / 4 + 6)), .ref ablk, .ref amov, .int (nI za9_2), .int (nI zb9_2), .ref ahA, .ref ahB, .ref ahC, .ref anum, .ref amsg, .ref astr])), (arow, .inl (cI, 64, .inl (gA r9_2))), (akey, .inl (cI, 32, .inl (gA kb))), (atwk, .inl (cI, 32, .inl (gA tk))), (abox, .inl (cI, 256, .inl (gA bx))), (awrd, .inl (cI, 240, .inl (gA w9_2))), (ahA, .inl (cI, 64, .inl (gA a9_2))), (ahB, .inl (cI, 64, .inl (gA b9_2))), (ahC, .inl (cI, 64, .inl (gA c9_2))), (anum, .inl (cI, 128, .inl (gA u9_2))), (amsg, .inl (cI, 128, .inl (gA m9_2))), (astr, .inl (cI, 128, .inl (gA s9_2))), (ablk, .inl (cI, 16, .inl (gA k9_2))), (amov, .inl (cI, 16, .inl (gA v9_2)))]) hP hD [11, 0, 1, 2, 3, 4, 5, 6, 12, 13, 7, 8, 9, 10] [] rfl rfl (by decide) (by decide) hk1 hFc ht hB rfl
            clear hk1 hz1 ht hB hvm hPc hDc hFc
            generalize H1 = H at hP hS ⊢
            have hr9 := hw
            exact W.vret hx hb hr (fun t ht hW => ⟨⟨(za9_2, zb9_2, r9_2, w9_2, a9_2, b9_2, c9_2, u9_2, m9_2, s9_2, k9_2, v9_2), rfl, hr9, gB_end ht hW hP hK hD⟩, hS.F ht⟩) hS.2.2 dX8_turn_67
          ·
            exact absurd c_51 (by decide)
        ·
          exact absurd c_46 (by decide)
      ·
        exact absurd c_34 (by decide)
  ·
    exact absurd c_13 (by decide)

set_option maxHeartbeats 4000000 in
set_option maxRecDepth 100000 in
/-- count: 0 -/
theorem c_X8_count_0 (l : Launch) (dC : Nat → ClassId) (dI : Nat → Nat → Nat) (cI : ClassId) (sz : Nat) (mo : Nat) (abuf : Nat) (akey : Nat) (atwk : Nat) (arow : Nat) (abox : Nat) (awrd : Nat) (ablk : Nat) (amov : Nat) (ahA : Nat) (ahB : Nat) (ahC : Nat) (anum : Nat) (amsg : Nat) (astr : Nat) (th : Nat) (by_ : Nat) (ks : Nat) (ts : Nat) (rx : Nat) (mn : Nat) (rd : Nat) (za : Nat) (zb : Nat) : Met l yX8_count wsX8_count ({ frames := 1, cells := 0, slots := 0, locals := 25 }) (gPc dC dI cI [.ref mo, .int (nI 0)] [(mo, .inr (7, [.int (nI th), .int (nI by_), .ref abuf, .int (nI ks), .ref akey, .int (nI ts), .ref atwk, .int (nI rx), .int (nI mn), .ref arow, .ref abox, .ref awrd, .int (nI rd), .ref ablk, .ref amov, .int (nI za), .int (nI zb), .ref ahA, .ref ahB, .ref ahC, .ref anum, .ref amsg, .ref astr]))] sz) (va_Qi (fun (r : Int32) (_u : Unit) => r = (nI mn)) (fun _u t => gB dC dI cI (va_A [(mo, .inr (7, [.int (nI th), .int (nI by_), .ref abuf, .int (nI ks), .ref akey, .int (nI ts), .ref atwk, .int (nI rx), .int (nI mn), .ref arow, .ref abox, .ref awrd, .int (nI rd), .ref ablk, .ref amov, .int (nI za), .int (nI zb), .ref ahA, .ref ahB, .ref ahC, .ref anum, .ref amsg, .ref astr]))] sz) [(mo, .inr (7, [.int (nI 0), .int (nI by_), .ref abuf, .int (nI ks), .ref akey, .int (nI ts), .ref atwk, .int (nI rx), .int (nI mn), .ref arow, .ref abox, .ref awrd, .int (nI rd), .ref ablk, .ref amov, .int (nI za), .int (nI zb), .ref ahA, .ref ahB, .ref ahC, .ref anum, .ref amsg, .ref astr]))] t) (va_A [(mo, .inr (7, [.int (nI th), .int (nI by_), .ref abuf, .int (nI ks), .ref akey, .int (nI ts), .ref atwk, .int (nI rx), .int (nI mn), .ref arow, .ref abox, .ref awrd, .int (nI rd), .ref ablk, .ref amov, .int (nI za), .int (nI zb), .ref ahA, .ref ahB, .ref ahC, .ref anum, .ref amsg, .ref astr]))] sz)) 0 0 (va_A [(mo, .inr (7, [.int (nI th), .int (nI by_), .ref abuf, .int (nI ks), .ref akey, .int (nI ts), .ref atwk, .int (nI rx), .int (nI mn), .ref arow, .ref abox, .ref awrd, .int (nI rd), .ref ablk, .ref amov, .int (nI za), .int (nI zb), .ref ahA, .ref ahB, .ref ahC, .ref anum, .ref amsg, .ref astr]))] sz) := by
  refine Met.ofW (cc := cX8_count) (maxL := 2) (ret := (some .int)) (by decide) rfl ?_
  intro p e s m args below meth c s₁ B9 hml hv
  obtain ⟨rfl, hsz, ⟨hP, hK, hD0⟩⟩ := hv
  have hx := B9.exec
  have hb := B9.bytes
  have hr := B9.returns
  have hts := atoms_spec (ws := wsX8_count) B9.pre
  have hown : s.vm.findClass RX8 = some m.cls := findClass_of_methodNamed B9.named
  have hlocks := B9.notSynchronized
  subst hsz
  have hD := hD0.self (sz := s.heap.size)
  generalize hAe : va_A [(mo, .inr (7, [.int (nI th), .int (nI by_), .ref abuf, .int (nI ks), .ref akey, .int (nI ts), .ref atwk, .int (nI rx), .int (nI mn), .ref arow, .ref abox, .ref awrd, .int (nI rd), .ref ablk, .ref amov, .int (nI za), .int (nI zb), .ref ahA, .ref ahB, .ref ahC, .ref anum, .ref amsg, .ref astr]))] s.heap.size = A at hD ⊢
  have hA : ∀ q : Nat, s.heap.size ≤ q → A q := fun q h => by rw [← hAe]; exact Or.inr h
  have hS : va_S A s.heap s.heap [] := va_S.rf
  have hl := lv_entry ([.ref mo, .int (nI 0)]) (n := 2) (Nat.le_of_ble_eq_true rfl)
  rw [lg_entry_eq]
  generalize (lg_sl ([.ref mo, .int (nI 0)]) ++ List.replicate (2 - (lg_sl ([.ref mo, .int (nI 0)])).length) Slot.unset).toArray = ls at hl ⊢
  have hl : lv_has ls 2 [(0, .ref mo), (1, .int (nI 0))] := hl
  refine lv_aload_n hx hb dX8_count_0 rfl (lv_at hl 0 rfl) ?_
  refine lv_iconst (v := nI 0) hx hb dX8_count_1 (by decide) ?_
  refine gv_put (own := RX8) (D := (dC, dI)) (ci := 7) (C := RX8) (T := TX8) (N := 23) (ws' := [(mo, .inr (7, [.int (nI 0), .int (nI by_), .ref abuf, .int (nI ks), .ref akey, .int (nI ts), .ref atwk, .int (nI rx), .int (nI mn), .ref arow, .ref abox, .ref awrd, .int (nI rd), .ref ablk, .ref amov, .int (nI za), .int (nI zb), .ref ahA, .ref ahB, .ref ahC, .ref anum, .ref amsg, .ref astr]))]) hx hb hts (by decide +kernel) tyX8 tyX8_ok nmX8 hown hK hP hD hS 0 rfl rfl 0 (by decide) (hts (.fieldLink RX8 63 "NumeralCipherModel" "thrown" "I") (by decide +kernel)) rfl rfl (by decide +kernel) (Nat.le_of_ble_eq_true rfl) rfl dX8_count_2 (fun H locs hP hD hS => ?_)
  refine lv_aload_n hx hb dX8_count_5 rfl (lv_at hl 0 rfl) ?_
  refine lv_iload_n hx hb dX8_count_6 rfl (lv_at hl 1 rfl) ?_
  refine lv_i2l (v := lN 0) hx hb dX8_count_7 (nI_l (by omega)) ?_
  refine lv_lconst (v := lN 0) hx hb dX8_count_8 (by decide) ?_
  refine lv_ldc2 (own := RX8) (v := (4 : Int64)) hx hb hown (hts (.constantLong RX8 158 (4)) (by decide +kernel)) dX8_count_9 ?_
  refine gv_topl (y := lN 4) (by decide +kernel) ?_
  refine gv_callR (W.runS (As := [.long (lN 0), .long (lN 0), .long (lN 4)]) (rest := [.ref mo]) ⟨hx, hb, hml, hown, hts⟩ (c_X8_in_1 l (lN 0) (lN 0) (lN 4) ((in_nat (v := 0) (a := 0) (b := 4) (by omega) (by omega) (by omega)).1) ((in_nat (v := 0) (a := 0) (b := 4) (by omega) (by omega) (by omega)).2)) (va_cwS 3 hts gX8_count_X8_in rfl rfl rfl (by decide +kernel) ⟨Nat.le_of_ble_eq_true rfl, Nat.le_of_ble_eq_true rfl⟩) ⟨fun a U g mk q => q, fun U hU hW => ⟨rfl, trivial⟩⟩ rfl rfl hl.1 rfl (lv_room (Nat.le_of_ble_eq_true rfl)) dX8_count_12 ⟨Nat.zero_le _, Nat.zero_le _⟩) ?_
  refine gv_if_ne (tgt := 22) hx hb dX8_count_15 (by decide) (by omega) (fun c_15 => ?_) (fun c_15 => ?_)
  ·
    refine lv_iconst (v := nI 0) hx hb dX8_count_22 (by decide) ?_
    refine lv_iconst (v := nI 1) hx hb dX8_count_23 (by decide) ?_
    have hPc := hP.sub (ws' := [(mo, .inr (7, [.int (nI 0), .int (nI by_), .ref abuf, .int (nI ks), .ref akey, .int (nI ts), .ref atwk, .int (nI rx), .int (nI mn), .ref arow, .ref abox, .ref awrd, .int (nI rd), .ref ablk, .ref amov, .int (nI za), .int (nI zb), .ref ahA, .ref ahB, .ref ahC, .ref anum, .ref amsg, .ref astr]))]) [0] rfl
    have hDc := hD.sub (ws' := [(mo, .inr (7, [.int (nI 0), .int (nI by_), .ref abuf, .int (nI ks), .ref akey, .int (nI ts), .ref atwk, .int (nI rx), .int (nI mn), .ref arow, .ref abox, .ref awrd, .int (nI rd), .ref ablk, .ref amov, .int (nI za), .int (nI zb), .ref ahA, .ref ahB, .ref ahC, .ref anum, .ref amsg, .ref astr]))]) [0] (by decide) rfl
    refine gv_callR (W.runV (As := [.int (nI 0), .int (nI 1)]) (rest := []) ⟨hx, hb, hml, hown, hts⟩ (c_X8_refuses_0 l dC dI cI H.size mo abuf akey atwk arow abox awrd ablk amov ahA ahB ahC anum amsg astr 0 by_ ks ts rx mn rd za zb 1 ) (cwV 2 hts gX8_count_X8_refuses rfl rfl rfl (by decide +kernel) ⟨Nat.le_of_ble_eq_true rfl, Nat.le_of_ble_eq_true rfl⟩) ⟨gPc_blind, va_recv hK hPc (ci := 7) (q0 := 0) rfl rfl, gPc_pre hPc hK hDc⟩ rfl rfl hl.1 rfl (lv_room (Nat.le_of_ble_eq_true rfl)) dX8_count_24 ⟨Nat.zero_le _, Nat.zero_le _⟩) ?_
    clear hPc hDc
    refine gv_if_eq (tgt := 32) hx hb dX8_count_27 (by decide) (by omega) (fun c_27 => ?_) (fun c_27 => ?_)
    ·
      refine lv_iload_n hx hb dX8_count_32 rfl (lv_at hl 1 rfl) ?_
      refine gv_if_ne (tgt := 43) hx hb dX8_count_33 (by decide) (by omega) (fun c_33 => ?_) (fun c_33 => ?_)
      ·
        exact absurd c_33 (by decide)
      ·
        refine lv_aload_n hx hb dX8_count_36 rfl (lv_at hl 0 rfl) ?_
        refine gv_get (own := RX8) (D := (dC, dI)) (ci := 7) (C := RX8) (T := TX8) (N := 23) (v := .int (nI mn)) hx hb hts (by decide +kernel) hown hK hP 0 rfl rfl 8 (by decide) (hts (.fieldLink RX8 89 "NumeralCipherModel" "many" "I") (by decide +kernel)) rfl rfl dX8_count_37 ?_
        refine lv_goto (tgt := 83) hx hb dX8_count_40 (by decide) ?_
        exact W.iret (v := (nI mn)) hx hb hr (fun t ht hW => ⟨⟨_, (), rfl, rfl, gB_end ht hW hP hK hD⟩, hS.F ht⟩) hS.2.2 dX8_count_83
    ·
      exact absurd c_27 (by decide)
  ·
    exact absurd c_15 (by decide)

set_option maxHeartbeats 4000000 in
set_option maxRecDepth 100000 in
/-- count: 1 -/
theorem c_X8_count_1 (l : Launch) (dC : Nat → ClassId) (dI : Nat → Nat → Nat) (cI : ClassId) (sz : Nat) (mo : Nat) (abuf : Nat) (akey : Nat) (atwk : Nat) (arow : Nat) (abox : Nat) (awrd : Nat) (ablk : Nat) (amov : Nat) (ahA : Nat) (ahB : Nat) (ahC : Nat) (anum : Nat) (amsg : Nat) (astr : Nat) (th : Nat) (by_ : Nat) (ks : Nat) (ts : Nat) (rx : Nat) (mn : Nat) (rd : Nat) (za : Nat) (zb : Nat) : Met l yX8_count wsX8_count ({ frames := 1, cells := 0, slots := 0, locals := 25 }) (gPc dC dI cI [.ref mo, .int (nI 1)] [(mo, .inr (7, [.int (nI th), .int (nI by_), .ref abuf, .int (nI ks), .ref akey, .int (nI ts), .ref atwk, .int (nI rx), .int (nI mn), .ref arow, .ref abox, .ref awrd, .int (nI rd), .ref ablk, .ref amov, .int (nI za), .int (nI zb), .ref ahA, .ref ahB, .ref ahC, .ref anum, .ref amsg, .ref astr]))] sz) (va_Qi (fun (r : Int32) (_u : Unit) => r = (nI rx)) (fun _u t => gB dC dI cI (va_A [(mo, .inr (7, [.int (nI th), .int (nI by_), .ref abuf, .int (nI ks), .ref akey, .int (nI ts), .ref atwk, .int (nI rx), .int (nI mn), .ref arow, .ref abox, .ref awrd, .int (nI rd), .ref ablk, .ref amov, .int (nI za), .int (nI zb), .ref ahA, .ref ahB, .ref ahC, .ref anum, .ref amsg, .ref astr]))] sz) [(mo, .inr (7, [.int (nI 0), .int (nI by_), .ref abuf, .int (nI ks), .ref akey, .int (nI ts), .ref atwk, .int (nI rx), .int (nI mn), .ref arow, .ref abox, .ref awrd, .int (nI rd), .ref ablk, .ref amov, .int (nI za), .int (nI zb), .ref ahA, .ref ahB, .ref ahC, .ref anum, .ref amsg, .ref astr]))] t) (va_A [(mo, .inr (7, [.int (nI th), .int (nI by_), .ref abuf, .int (nI ks), .ref akey, .int (nI ts), .ref atwk, .int (nI rx), .int (nI mn), .ref arow, .ref abox, .ref awrd, .int (nI rd), .ref ablk, .ref amov, .int (nI za), .int (nI zb), .ref ahA, .ref ahB, .ref ahC, .ref anum, .ref amsg, .ref astr]))] sz)) 0 0 (va_A [(mo, .inr (7, [.int (nI th), .int (nI by_), .ref abuf, .int (nI ks), .ref akey, .int (nI ts), .ref atwk, .int (nI rx), .int (nI mn), .ref arow, .ref abox, .ref awrd, .int (nI rd), .ref ablk, .ref amov, .int (nI za), .int (nI zb), .ref ahA, .ref ahB, .ref ahC, .ref anum, .ref amsg, .ref astr]))] sz) := by
  refine Met.ofW (cc := cX8_count) (maxL := 2) (ret := (some .int)) (by decide) rfl ?_
  intro p e s m args below meth c s₁ B9 hml hv
  obtain ⟨rfl, hsz, ⟨hP, hK, hD0⟩⟩ := hv
  have hx := B9.exec
  have hb := B9.bytes
  have hr := B9.returns
  have hts := atoms_spec (ws := wsX8_count) B9.pre
  have hown : s.vm.findClass RX8 = some m.cls := findClass_of_methodNamed B9.named
  have hlocks := B9.notSynchronized
  subst hsz
  have hD := hD0.self (sz := s.heap.size)
  generalize hAe : va_A [(mo, .inr (7, [.int (nI th), .int (nI by_), .ref abuf, .int (nI ks), .ref akey, .int (nI ts), .ref atwk, .int (nI rx), .int (nI mn), .ref arow, .ref abox, .ref awrd, .int (nI rd), .ref ablk, .ref amov, .int (nI za), .int (nI zb), .ref ahA, .ref ahB, .ref ahC, .ref anum, .ref amsg, .ref astr]))] s.heap.size = A at hD ⊢
  have hA : ∀ q : Nat, s.heap.size ≤ q → A q := fun q h => by rw [← hAe]; exact Or.inr h
  have hS : va_S A s.heap s.heap [] := va_S.rf
  have hl := lv_entry ([.ref mo, .int (nI 1)]) (n := 2) (Nat.le_of_ble_eq_true rfl)
  rw [lg_entry_eq]
  generalize (lg_sl ([.ref mo, .int (nI 1)]) ++ List.replicate (2 - (lg_sl ([.ref mo, .int (nI 1)])).length) Slot.unset).toArray = ls at hl ⊢
  have hl : lv_has ls 2 [(0, .ref mo), (1, .int (nI 1))] := hl
  refine lv_aload_n hx hb dX8_count_0 rfl (lv_at hl 0 rfl) ?_
  refine lv_iconst (v := nI 0) hx hb dX8_count_1 (by decide) ?_
  refine gv_put (own := RX8) (D := (dC, dI)) (ci := 7) (C := RX8) (T := TX8) (N := 23) (ws' := [(mo, .inr (7, [.int (nI 0), .int (nI by_), .ref abuf, .int (nI ks), .ref akey, .int (nI ts), .ref atwk, .int (nI rx), .int (nI mn), .ref arow, .ref abox, .ref awrd, .int (nI rd), .ref ablk, .ref amov, .int (nI za), .int (nI zb), .ref ahA, .ref ahB, .ref ahC, .ref anum, .ref amsg, .ref astr]))]) hx hb hts (by decide +kernel) tyX8 tyX8_ok nmX8 hown hK hP hD hS 0 rfl rfl 0 (by decide) (hts (.fieldLink RX8 63 "NumeralCipherModel" "thrown" "I") (by decide +kernel)) rfl rfl (by decide +kernel) (Nat.le_of_ble_eq_true rfl) rfl dX8_count_2 (fun H locs hP hD hS => ?_)
  refine lv_aload_n hx hb dX8_count_5 rfl (lv_at hl 0 rfl) ?_
  refine lv_iload_n hx hb dX8_count_6 rfl (lv_at hl 1 rfl) ?_
  refine lv_i2l (v := lN 1) hx hb dX8_count_7 (nI_l (by omega)) ?_
  refine lv_lconst (v := lN 0) hx hb dX8_count_8 (by decide) ?_
  refine lv_ldc2 (own := RX8) (v := (4 : Int64)) hx hb hown (hts (.constantLong RX8 158 (4)) (by decide +kernel)) dX8_count_9 ?_
  refine gv_topl (y := lN 4) (by decide +kernel) ?_
  refine gv_callR (W.runS (As := [.long (lN 1), .long (lN 0), .long (lN 4)]) (rest := [.ref mo]) ⟨hx, hb, hml, hown, hts⟩ (c_X8_in_1 l (lN 1) (lN 0) (lN 4) ((in_nat (v := 1) (a := 0) (b := 4) (by omega) (by omega) (by omega)).1) ((in_nat (v := 1) (a := 0) (b := 4) (by omega) (by omega) (by omega)).2)) (va_cwS 3 hts gX8_count_X8_in rfl rfl rfl (by decide +kernel) ⟨Nat.le_of_ble_eq_true rfl, Nat.le_of_ble_eq_true rfl⟩) ⟨fun a U g mk q => q, fun U hU hW => ⟨rfl, trivial⟩⟩ rfl rfl hl.1 rfl (lv_room (Nat.le_of_ble_eq_true rfl)) dX8_count_12 ⟨Nat.zero_le _, Nat.zero_le _⟩) ?_
  refine gv_if_ne (tgt := 22) hx hb dX8_count_15 (by decide) (by omega) (fun c_15 => ?_) (fun c_15 => ?_)
  ·
    refine lv_iconst (v := nI 0) hx hb dX8_count_22 (by decide) ?_
    refine lv_iconst (v := nI 1) hx hb dX8_count_23 (by decide) ?_
    have hPc := hP.sub (ws' := [(mo, .inr (7, [.int (nI 0), .int (nI by_), .ref abuf, .int (nI ks), .ref akey, .int (nI ts), .ref atwk, .int (nI rx), .int (nI mn), .ref arow, .ref abox, .ref awrd, .int (nI rd), .ref ablk, .ref amov, .int (nI za), .int (nI zb), .ref ahA, .ref ahB, .ref ahC, .ref anum, .ref amsg, .ref astr]))]) [0] rfl
    have hDc := hD.sub (ws' := [(mo, .inr (7, [.int (nI 0), .int (nI by_), .ref abuf, .int (nI ks), .ref akey, .int (nI ts), .ref atwk, .int (nI rx), .int (nI mn), .ref arow, .ref abox, .ref awrd, .int (nI rd), .ref ablk, .ref amov, .int (nI za), .int (nI zb), .ref ahA, .ref ahB, .ref ahC, .ref anum, .ref amsg, .ref astr]))]) [0] (by decide) rfl
    refine gv_callR (W.runV (As := [.int (nI 0), .int (nI 1)]) (rest := []) ⟨hx, hb, hml, hown, hts⟩ (c_X8_refuses_0 l dC dI cI H.size mo abuf akey atwk arow abox awrd ablk amov ahA ahB ahC anum amsg astr 0 by_ ks ts rx mn rd za zb 1 ) (cwV 2 hts gX8_count_X8_refuses rfl rfl rfl (by decide +kernel) ⟨Nat.le_of_ble_eq_true rfl, Nat.le_of_ble_eq_true rfl⟩) ⟨gPc_blind, va_recv hK hPc (ci := 7) (q0 := 0) rfl rfl, gPc_pre hPc hK hDc⟩ rfl rfl hl.1 rfl (lv_room (Nat.le_of_ble_eq_true rfl)) dX8_count_24 ⟨Nat.zero_le _, Nat.zero_le _⟩) ?_
    clear hPc hDc
    refine gv_if_eq (tgt := 32) hx hb dX8_count_27 (by decide) (by omega) (fun c_27 => ?_) (fun c_27 => ?_)
    ·
      refine lv_iload_n hx hb dX8_count_32 rfl (lv_at hl 1 rfl) ?_
      refine gv_if_ne (tgt := 43) hx hb dX8_count_33 (by decide) (by omega) (fun c_33 => ?_) (fun c_33 => ?_)
      ·
        refine lv_iload_n hx hb dX8_count_43 rfl (lv_at hl 1 rfl) ?_
        refine lv_iconst (v := nI 1) hx hb dX8_count_44 (by decide) ?_
        refine gv_icmp_ne (tgt := 55) hx hb dX8_count_45 (by decide) (by omega) (by omega) (fun c_45 => ?_) (fun c_45 => ?_)
        ·
          exact absurd c_45 (by decide)
        ·
          refine lv_aload_n hx hb dX8_count_48 rfl (lv_at hl 0 rfl) ?_
          refine gv_get (own := RX8) (D := (dC, dI)) (ci := 7) (C := RX8) (T := TX8) (N := 23) (v := .int (nI rx)) hx hb hts (by decide +kernel) hown hK hP 0 rfl rfl 7 (by decide) (hts (.fieldLink RX8 23 "NumeralCipherModel" "radix" "I") (by decide +kernel)) rfl rfl dX8_count_49 ?_
          refine lv_goto (tgt := 83) hx hb dX8_count_52 (by decide) ?_
          exact W.iret (v := (nI rx)) hx hb hr (fun t ht hW => ⟨⟨_, (), rfl, rfl, gB_end ht hW hP hK hD⟩, hS.F ht⟩) hS.2.2 dX8_count_83
      ·
        exact absurd c_33 (by decide)
    ·
      exact absurd c_27 (by decide)
  ·
    exact absurd c_15 (by decide)

set_option maxHeartbeats 4000000 in
set_option maxRecDepth 100000 in
/-- count: 2 -/
theorem c_X8_count_2 (l : Launch) (dC : Nat → ClassId) (dI : Nat → Nat → Nat) (cI : ClassId) (sz : Nat) (mo : Nat) (abuf : Nat) (akey : Nat) (atwk : Nat) (arow : Nat) (abox : Nat) (awrd : Nat) (ablk : Nat) (amov : Nat) (ahA : Nat) (ahB : Nat) (ahC : Nat) (anum : Nat) (amsg : Nat) (astr : Nat) (th : Nat) (by_ : Nat) (ks : Nat) (ts : Nat) (rx : Nat) (mn : Nat) (rd : Nat) (za : Nat) (zb : Nat) : Met l yX8_count wsX8_count ({ frames := 1, cells := 0, slots := 0, locals := 25 }) (gPc dC dI cI [.ref mo, .int (nI 2)] [(mo, .inr (7, [.int (nI th), .int (nI by_), .ref abuf, .int (nI ks), .ref akey, .int (nI ts), .ref atwk, .int (nI rx), .int (nI mn), .ref arow, .ref abox, .ref awrd, .int (nI rd), .ref ablk, .ref amov, .int (nI za), .int (nI zb), .ref ahA, .ref ahB, .ref ahC, .ref anum, .ref amsg, .ref astr]))] sz) (va_Qi (fun (r : Int32) (_u : Unit) => r = (nI ks)) (fun _u t => gB dC dI cI (va_A [(mo, .inr (7, [.int (nI th), .int (nI by_), .ref abuf, .int (nI ks), .ref akey, .int (nI ts), .ref atwk, .int (nI rx), .int (nI mn), .ref arow, .ref abox, .ref awrd, .int (nI rd), .ref ablk, .ref amov, .int (nI za), .int (nI zb), .ref ahA, .ref ahB, .ref ahC, .ref anum, .ref amsg, .ref astr]))] sz) [(mo, .inr (7, [.int (nI 0), .int (nI by_), .ref abuf, .int (nI ks), .ref akey, .int (nI ts), .ref atwk, .int (nI rx), .int (nI mn), .ref arow, .ref abox, .ref awrd, .int (nI rd), .ref ablk, .ref amov, .int (nI za), .int (nI zb), .ref ahA, .ref ahB, .ref ahC, .ref anum, .ref amsg, .ref astr]))] t) (va_A [(mo, .inr (7, [.int (nI th), .int (nI by_), .ref abuf, .int (nI ks), .ref akey, .int (nI ts), .ref atwk, .int (nI rx), .int (nI mn), .ref arow, .ref abox, .ref awrd, .int (nI rd), .ref ablk, .ref amov, .int (nI za), .int (nI zb), .ref ahA, .ref ahB, .ref ahC, .ref anum, .ref amsg, .ref astr]))] sz)) 0 0 (va_A [(mo, .inr (7, [.int (nI th), .int (nI by_), .ref abuf, .int (nI ks), .ref akey, .int (nI ts), .ref atwk, .int (nI rx), .int (nI mn), .ref arow, .ref abox, .ref awrd, .int (nI rd), .ref ablk, .ref amov, .int (nI za), .int (nI zb), .ref ahA, .ref ahB, .ref ahC, .ref anum, .ref amsg, .ref astr]))] sz) := by
  refine Met.ofW (cc := cX8_count) (maxL := 2) (ret := (some .int)) (by decide) rfl ?_
  intro p e s m args below meth c s₁ B9 hml hv
  obtain ⟨rfl, hsz, ⟨hP, hK, hD0⟩⟩ := hv
  have hx := B9.exec
  have hb := B9.bytes
  have hr := B9.returns
  have hts := atoms_spec (ws := wsX8_count) B9.pre
  have hown : s.vm.findClass RX8 = some m.cls := findClass_of_methodNamed B9.named
  have hlocks := B9.notSynchronized
  subst hsz
  have hD := hD0.self (sz := s.heap.size)
  generalize hAe : va_A [(mo, .inr (7, [.int (nI th), .int (nI by_), .ref abuf, .int (nI ks), .ref akey, .int (nI ts), .ref atwk, .int (nI rx), .int (nI mn), .ref arow, .ref abox, .ref awrd, .int (nI rd), .ref ablk, .ref amov, .int (nI za), .int (nI zb), .ref ahA, .ref ahB, .ref ahC, .ref anum, .ref amsg, .ref astr]))] s.heap.size = A at hD ⊢
  have hA : ∀ q : Nat, s.heap.size ≤ q → A q := fun q h => by rw [← hAe]; exact Or.inr h
  have hS : va_S A s.heap s.heap [] := va_S.rf
  have hl := lv_entry ([.ref mo, .int (nI 2)]) (n := 2) (Nat.le_of_ble_eq_true rfl)
  rw [lg_entry_eq]
  generalize (lg_sl ([.ref mo, .int (nI 2)]) ++ List.replicate (2 - (lg_sl ([.ref mo, .int (nI 2)])).length) Slot.unset).toArray = ls at hl ⊢
  have hl : lv_has ls 2 [(0, .ref mo), (1, .int (nI 2))] := hl
  refine lv_aload_n hx hb dX8_count_0 rfl (lv_at hl 0 rfl) ?_
  refine lv_iconst (v := nI 0) hx hb dX8_count_1 (by decide) ?_
  refine gv_put (own := RX8) (D := (dC, dI)) (ci := 7) (C := RX8) (T := TX8) (N := 23) (ws' := [(mo, .inr (7, [.int (nI 0), .int (nI by_), .ref abuf, .int (nI ks), .ref akey, .int (nI ts), .ref atwk, .int (nI rx), .int (nI mn), .ref arow, .ref abox, .ref awrd, .int (nI rd), .ref ablk, .ref amov, .int (nI za), .int (nI zb), .ref ahA, .ref ahB, .ref ahC, .ref anum, .ref amsg, .ref astr]))]) hx hb hts (by decide +kernel) tyX8 tyX8_ok nmX8 hown hK hP hD hS 0 rfl rfl 0 (by decide) (hts (.fieldLink RX8 63 "NumeralCipherModel" "thrown" "I") (by decide +kernel)) rfl rfl (by decide +kernel) (Nat.le_of_ble_eq_true rfl) rfl dX8_count_2 (fun H locs hP hD hS => ?_)
  refine lv_aload_n hx hb dX8_count_5 rfl (lv_at hl 0 rfl) ?_
  refine lv_iload_n hx hb dX8_count_6 rfl (lv_at hl 1 rfl) ?_
  refine lv_i2l (v := lN 2) hx hb dX8_count_7 (nI_l (by omega)) ?_
  refine lv_lconst (v := lN 0) hx hb dX8_count_8 (by decide) ?_
  refine lv_ldc2 (own := RX8) (v := (4 : Int64)) hx hb hown (hts (.constantLong RX8 158 (4)) (by decide +kernel)) dX8_count_9 ?_
  refine gv_topl (y := lN 4) (by decide +kernel) ?_
  refine gv_callR (W.runS (As := [.long (lN 2), .long (lN 0), .long (lN 4)]) (rest := [.ref mo]) ⟨hx, hb, hml, hown, hts⟩ (c_X8_in_1 l (lN 2) (lN 0) (lN 4) ((in_nat (v := 2) (a := 0) (b := 4) (by omega) (by omega) (by omega)).1) ((in_nat (v := 2) (a := 0) (b := 4) (by omega) (by omega) (by omega)).2)) (va_cwS 3 hts gX8_count_X8_in rfl rfl rfl (by decide +kernel) ⟨Nat.le_of_ble_eq_true rfl, Nat.le_of_ble_eq_true rfl⟩) ⟨fun a U g mk q => q, fun U hU hW => ⟨rfl, trivial⟩⟩ rfl rfl hl.1 rfl (lv_room (Nat.le_of_ble_eq_true rfl)) dX8_count_12 ⟨Nat.zero_le _, Nat.zero_le _⟩) ?_
  refine gv_if_ne (tgt := 22) hx hb dX8_count_15 (by decide) (by omega) (fun c_15 => ?_) (fun c_15 => ?_)
  ·
    refine lv_iconst (v := nI 0) hx hb dX8_count_22 (by decide) ?_
    refine lv_iconst (v := nI 1) hx hb dX8_count_23 (by decide) ?_
    have hPc := hP.sub (ws' := [(mo, .inr (7, [.int (nI 0), .int (nI by_), .ref abuf, .int (nI ks), .ref akey, .int (nI ts), .ref atwk, .int (nI rx), .int (nI mn), .ref arow, .ref abox, .ref awrd, .int (nI rd), .ref ablk, .ref amov, .int (nI za), .int (nI zb), .ref ahA, .ref ahB, .ref ahC, .ref anum, .ref amsg, .ref astr]))]) [0] rfl
    have hDc := hD.sub (ws' := [(mo, .inr (7, [.int (nI 0), .int (nI by_), .ref abuf, .int (nI ks), .ref akey, .int (nI ts), .ref atwk, .int (nI rx), .int (nI mn), .ref arow, .ref abox, .ref awrd, .int (nI rd), .ref ablk, .ref amov, .int (nI za), .int (nI zb), .ref ahA, .ref ahB, .ref ahC, .ref anum, .ref amsg, .ref astr]))]) [0] (by decide) rfl
    refine gv_callR (W.runV (As := [.int (nI 0), .int (nI 1)]) (rest := []) ⟨hx, hb, hml, hown, hts⟩ (c_X8_refuses_0 l dC dI cI H.size mo abuf akey atwk arow abox awrd ablk amov ahA ahB ahC anum amsg astr 0 by_ ks ts rx mn rd za zb 1 ) (cwV 2 hts gX8_count_X8_refuses rfl rfl rfl (by decide +kernel) ⟨Nat.le_of_ble_eq_true rfl, Nat.le_of_ble_eq_true rfl⟩) ⟨gPc_blind, va_recv hK hPc (ci := 7) (q0 := 0) rfl rfl, gPc_pre hPc hK hDc⟩ rfl rfl hl.1 rfl (lv_room (Nat.le_of_ble_eq_true rfl)) dX8_count_24 ⟨Nat.zero_le _, Nat.zero_le _⟩) ?_
    clear hPc hDc
    refine gv_if_eq (tgt := 32) hx hb dX8_count_27 (by decide) (by omega) (fun c_27 => ?_) (fun c_27 => ?_)
    ·
      refine lv_iload_n hx hb dX8_count_32 rfl (lv_at hl 1 rfl) ?_
      refine gv_if_ne (tgt := 43) hx hb dX8_count_33 (by decide) (by omega) (fun c_33 => ?_) (fun c_33 => ?_)
      ·
        refine lv_iload_n hx hb dX8_count_43 rfl (lv_at hl 1 rfl) ?_
        refine lv_iconst (v := nI 1) hx hb dX8_count_44 (by decide) ?_
        refine gv_icmp_ne (tgt := 55) hx hb dX8_count_45 (by decide) (by omega) (by omega) (fun c_45 => ?_) (fun c_45 => ?_)
        ·
          refine lv_iload_n hx hb dX8_count_55 rfl (lv_at hl 1 rfl) ?_
          refine lv_iconst (v := nI 2) hx hb dX8_count_56 (by decide) ?_
          refine gv_icmp_ne (tgt := 67) hx hb dX8_count_57 (by decide) (by omega) (by omega) (fun c_57 => ?_) (fun c_57 => ?_)
          ·
            exact absurd c_57 (by decide)
          ·
            refine lv_aload_n hx hb dX8_count_60 rfl (lv_at hl 0 rfl) ?_
            refine gv_get (own := RX8) (D := (dC, dI)) (ci := 7) (C := RX8) (T := TX8) (N := 23) (v := .int (nI ks)) hx hb hts (by decide +kernel) hown hK hP 0 rfl rfl 3 (by decide) (hts (.fieldLink RX8 13 "NumeralCipherModel" "keySize" "I") (by decide +kernel)) rfl rfl dX8_count_61 ?_
            refine lv_goto (tgt := 83) hx hb dX8_count_64 (by decide) ?_
            exact W.iret (v := (nI ks)) hx hb hr (fun t ht hW => ⟨⟨_, (), rfl, rfl, gB_end ht hW hP hK hD⟩, hS.F ht⟩) hS.2.2 dX8_count_83
        ·
          exact absurd c_45 (by decide)
      ·
        exact absurd c_33 (by decide)
    ·
      exact absurd c_27 (by decide)
  ·
    exact absurd c_15 (by decide)

set_option maxHeartbeats 4000000 in
set_option maxRecDepth 100000 in
/-- count: 3 -/
theorem c_X8_count_3 (l : Launch) (dC : Nat → ClassId) (dI : Nat → Nat → Nat) (cI : ClassId) (sz : Nat) (mo : Nat) (abuf : Nat) (akey : Nat) (atwk : Nat) (arow : Nat) (abox : Nat) (awrd : Nat) (ablk : Nat) (amov : Nat) (ahA : Nat) (ahB : Nat) (ahC : Nat) (anum : Nat) (amsg : Nat) (astr : Nat) (th : Nat) (by_ : Nat) (ks : Nat) (ts : Nat) (rx : Nat) (mn : Nat) (rd : Nat) (za : Nat) (zb : Nat) : Met l yX8_count wsX8_count ({ frames := 1, cells := 0, slots := 0, locals := 25 }) (gPc dC dI cI [.ref mo, .int (nI 3)] [(mo, .inr (7, [.int (nI th), .int (nI by_), .ref abuf, .int (nI ks), .ref akey, .int (nI ts), .ref atwk, .int (nI rx), .int (nI mn), .ref arow, .ref abox, .ref awrd, .int (nI rd), .ref ablk, .ref amov, .int (nI za), .int (nI zb), .ref ahA, .ref ahB, .ref ahC, .ref anum, .ref amsg, .ref astr]))] sz) (va_Qi (fun (r : Int32) (_u : Unit) => r = (nI ts)) (fun _u t => gB dC dI cI (va_A [(mo, .inr (7, [.int (nI th), .int (nI by_), .ref abuf, .int (nI ks), .ref akey, .int (nI ts), .ref atwk, .int (nI rx), .int (nI mn), .ref arow, .ref abox, .ref awrd, .int (nI rd), .ref ablk, .ref amov, .int (nI za), .int (nI zb), .ref ahA, .ref ahB, .ref ahC, .ref anum, .ref amsg, .ref astr]))] sz) [(mo, .inr (7, [.int (nI 0), .int (nI by_), .ref abuf, .int (nI ks), .ref akey, .int (nI ts), .ref atwk, .int (nI rx), .int (nI mn), .ref arow, .ref abox, .ref awrd, .int (nI rd), .ref ablk, .ref amov, .int (nI za), .int (nI zb), .ref ahA, .ref ahB, .ref ahC, .ref anum, .ref amsg, .ref astr]))] t) (va_A [(mo, .inr (7, [.int (nI th), .int (nI by_), .ref abuf, .int (nI ks), .ref akey, .int (nI ts), .ref atwk, .int (nI rx), .int (nI mn), .ref arow, .ref abox, .ref awrd, .int (nI rd), .ref ablk, .ref amov, .int (nI za), .int (nI zb), .ref ahA, .ref ahB, .ref ahC, .ref anum, .ref amsg, .ref astr]))] sz)) 0 0 (va_A [(mo, .inr (7, [.int (nI th), .int (nI by_), .ref abuf, .int (nI ks), .ref akey, .int (nI ts), .ref atwk, .int (nI rx), .int (nI mn), .ref arow, .ref abox, .ref awrd, .int (nI rd), .ref ablk, .ref amov, .int (nI za), .int (nI zb), .ref ahA, .ref ahB, .ref ahC, .ref anum, .ref amsg, .ref astr]))] sz) := by
  refine Met.ofW (cc := cX8_count) (maxL := 2) (ret := (some .int)) (by decide) rfl ?_
  intro p e s m args below meth c s₁ B9 hml hv
  obtain ⟨rfl, hsz, ⟨hP, hK, hD0⟩⟩ := hv
  have hx := B9.exec
  have hb := B9.bytes
  have hr := B9.returns
  have hts := atoms_spec (ws := wsX8_count) B9.pre
  have hown : s.vm.findClass RX8 = some m.cls := findClass_of_methodNamed B9.named
  have hlocks := B9.notSynchronized
  subst hsz
  have hD := hD0.self (sz := s.heap.size)
  generalize hAe : va_A [(mo, .inr (7, [.int (nI th), .int (nI by_), .ref abuf, .int (nI ks), .ref akey, .int (nI ts), .ref atwk, .int (nI rx), .int (nI mn), .ref arow, .ref abox, .ref awrd, .int (nI rd), .ref ablk, .ref amov, .int (nI za), .int (nI zb), .ref ahA, .ref ahB, .ref ahC, .ref anum, .ref amsg, .ref astr]))] s.heap.size = A at hD ⊢
  have hA : ∀ q : Nat, s.heap.size ≤ q → A q := fun q h => by rw [← hAe]; exact Or.inr h
  have hS : va_S A s.heap s.heap [] := va_S.rf
  have hl := lv_entry ([.ref mo, .int (nI 3)]) (n := 2) (Nat.le_of_ble_eq_true rfl)
  rw [lg_entry_eq]
  generalize (lg_sl ([.ref mo, .int (nI 3)]) ++ List.replicate (2 - (lg_sl ([.ref mo, .int (nI 3)])).length) Slot.unset).toArray = ls at hl ⊢
  have hl : lv_has ls 2 [(0, .ref mo), (1, .int (nI 3))] := hl
  refine lv_aload_n hx hb dX8_count_0 rfl (lv_at hl 0 rfl) ?_
  refine lv_iconst (v := nI 0) hx hb dX8_count_1 (by decide) ?_
  refine gv_put (own := RX8) (D := (dC, dI)) (ci := 7) (C := RX8) (T := TX8) (N := 23) (ws' := [(mo, .inr (7, [.int (nI 0), .int (nI by_), .ref abuf, .int (nI ks), .ref akey, .int (nI ts), .ref atwk, .int (nI rx), .int (nI mn), .ref arow, .ref abox, .ref awrd, .int (nI rd), .ref ablk, .ref amov, .int (nI za), .int (nI zb), .ref ahA, .ref ahB, .ref ahC, .ref anum, .ref amsg, .ref astr]))]) hx hb hts (by decide +kernel) tyX8 tyX8_ok nmX8 hown hK hP hD hS 0 rfl rfl 0 (by decide) (hts (.fieldLink RX8 63 "NumeralCipherModel" "thrown" "I") (by decide +kernel)) rfl rfl (by decide +kernel) (Nat.le_of_ble_eq_true rfl) rfl dX8_count_2 (fun H locs hP hD hS => ?_)
  refine lv_aload_n hx hb dX8_count_5 rfl (lv_at hl 0 rfl) ?_
  refine lv_iload_n hx hb dX8_count_6 rfl (lv_at hl 1 rfl) ?_
  refine lv_i2l (v := lN 3) hx hb dX8_count_7 (nI_l (by omega)) ?_
  refine lv_lconst (v := lN 0) hx hb dX8_count_8 (by decide) ?_
  refine lv_ldc2 (own := RX8) (v := (4 : Int64)) hx hb hown (hts (.constantLong RX8 158 (4)) (by decide +kernel)) dX8_count_9 ?_
  refine gv_topl (y := lN 4) (by decide +kernel) ?_
  refine gv_callR (W.runS (As := [.long (lN 3), .long (lN 0), .long (lN 4)]) (rest := [.ref mo]) ⟨hx, hb, hml, hown, hts⟩ (c_X8_in_1 l (lN 3) (lN 0) (lN 4) ((in_nat (v := 3) (a := 0) (b := 4) (by omega) (by omega) (by omega)).1) ((in_nat (v := 3) (a := 0) (b := 4) (by omega) (by omega) (by omega)).2)) (va_cwS 3 hts gX8_count_X8_in rfl rfl rfl (by decide +kernel) ⟨Nat.le_of_ble_eq_true rfl, Nat.le_of_ble_eq_true rfl⟩) ⟨fun a U g mk q => q, fun U hU hW => ⟨rfl, trivial⟩⟩ rfl rfl hl.1 rfl (lv_room (Nat.le_of_ble_eq_true rfl)) dX8_count_12 ⟨Nat.zero_le _, Nat.zero_le _⟩) ?_
  refine gv_if_ne (tgt := 22) hx hb dX8_count_15 (by decide) (by omega) (fun c_15 => ?_) (fun c_15 => ?_)
  ·
    refine lv_iconst (v := nI 0) hx hb dX8_count_22 (by decide) ?_
    refine lv_iconst (v := nI 1) hx hb dX8_count_23 (by decide) ?_
    have hPc := hP.sub (ws' := [(mo, .inr (7, [.int (nI 0), .int (nI by_), .ref abuf, .int (nI ks), .ref akey, .int (nI ts), .ref atwk, .int (nI rx), .int (nI mn), .ref arow, .ref abox, .ref awrd, .int (nI rd), .ref ablk, .ref amov, .int (nI za), .int (nI zb), .ref ahA, .ref ahB, .ref ahC, .ref anum, .ref amsg, .ref astr]))]) [0] rfl
    have hDc := hD.sub (ws' := [(mo, .inr (7, [.int (nI 0), .int (nI by_), .ref abuf, .int (nI ks), .ref akey, .int (nI ts), .ref atwk, .int (nI rx), .int (nI mn), .ref arow, .ref abox, .ref awrd, .int (nI rd), .ref ablk, .ref amov, .int (nI za), .int (nI zb), .ref ahA, .ref ahB, .ref ahC, .ref anum, .ref amsg, .ref astr]))]) [0] (by decide) rfl
    refine gv_callR (W.runV (As := [.int (nI 0), .int (nI 1)]) (rest := []) ⟨hx, hb, hml, hown, hts⟩ (c_X8_refuses_0 l dC dI cI H.size mo abuf akey atwk arow abox awrd ablk amov ahA ahB ahC anum amsg astr 0 by_ ks ts rx mn rd za zb 1 ) (cwV 2 hts gX8_count_X8_refuses rfl rfl rfl (by decide +kernel) ⟨Nat.le_of_ble_eq_true rfl, Nat.le_of_ble_eq_true rfl⟩) ⟨gPc_blind, va_recv hK hPc (ci := 7) (q0 := 0) rfl rfl, gPc_pre hPc hK hDc⟩ rfl rfl hl.1 rfl (lv_room (Nat.le_of_ble_eq_true rfl)) dX8_count_24 ⟨Nat.zero_le _, Nat.zero_le _⟩) ?_
    clear hPc hDc
    refine gv_if_eq (tgt := 32) hx hb dX8_count_27 (by decide) (by omega) (fun c_27 => ?_) (fun c_27 => ?_)
    ·
      refine lv_iload_n hx hb dX8_count_32 rfl (lv_at hl 1 rfl) ?_
      refine gv_if_ne (tgt := 43) hx hb dX8_count_33 (by decide) (by omega) (fun c_33 => ?_) (fun c_33 => ?_)
      ·
        refine lv_iload_n hx hb dX8_count_43 rfl (lv_at hl 1 rfl) ?_
        refine lv_iconst (v := nI 1) hx hb dX8_count_44 (by decide) ?_
        refine gv_icmp_ne (tgt := 55) hx hb dX8_count_45 (by decide) (by omega) (by omega) (fun c_45 => ?_) (fun c_45 => ?_)
        ·
          refine lv_iload_n hx hb dX8_count_55 rfl (lv_at hl 1 rfl) ?_
          refine lv_iconst (v := nI 2) hx hb dX8_count_56 (by decide) ?_
          refine gv_icmp_ne (tgt := 67) hx hb dX8_count_57 (by decide) (by omega) (by omega) (fun c_57 => ?_) (fun c_57 => ?_)
          ·
            refine lv_iload_n hx hb dX8_count_67 rfl (lv_at hl 1 rfl) ?_
            refine lv_iconst (v := nI 3) hx hb dX8_count_68 (by decide) ?_
            refine gv_icmp_ne (tgt := 79) hx hb dX8_count_69 (by decide) (by omega) (by omega) (fun c_69 => ?_) (fun c_69 => ?_)
            ·
              exact absurd c_69 (by decide)
            ·
              refine lv_aload_n hx hb dX8_count_72 rfl (lv_at hl 0 rfl) ?_
              refine gv_get (own := RX8) (D := (dC, dI)) (ci := 7) (C := RX8) (T := TX8) (N := 23) (v := .int (nI ts)) hx hb hts (by decide +kernel) hown hK hP 0 rfl rfl 5 (by decide) (hts (.fieldLink RX8 95 "NumeralCipherModel" "tweakSize" "I") (by decide +kernel)) rfl rfl dX8_count_73 ?_
              refine lv_goto (tgt := 83) hx hb dX8_count_76 (by decide) ?_
              exact W.iret (v := (nI ts)) hx hb hr (fun t ht hW => ⟨⟨_, (), rfl, rfl, gB_end ht hW hP hK hD⟩, hS.F ht⟩) hS.2.2 dX8_count_83
          ·
            exact absurd c_57 (by decide)
        ·
          exact absurd c_45 (by decide)
      ·
        exact absurd c_33 (by decide)
    ·
      exact absurd c_27 (by decide)
  ·
    exact absurd c_15 (by decide)

set_option maxHeartbeats 4000000 in
set_option maxRecDepth 100000 in
/-- count: 4 -/
theorem c_X8_count_4 (l : Launch) (dC : Nat → ClassId) (dI : Nat → Nat → Nat) (cI : ClassId) (sz : Nat) (mo : Nat) (abuf : Nat) (akey : Nat) (atwk : Nat) (arow : Nat) (abox : Nat) (awrd : Nat) (ablk : Nat) (amov : Nat) (ahA : Nat) (ahB : Nat) (ahC : Nat) (anum : Nat) (amsg : Nat) (astr : Nat) (th : Nat) (by_ : Nat) (ks : Nat) (ts : Nat) (rx : Nat) (mn : Nat) (rd : Nat) (za : Nat) (zb : Nat) : Met l yX8_count wsX8_count ({ frames := 1, cells := 0, slots := 0, locals := 25 }) (gPc dC dI cI [.ref mo, .int (nI 4)] [(mo, .inr (7, [.int (nI th), .int (nI by_), .ref abuf, .int (nI ks), .ref akey, .int (nI ts), .ref atwk, .int (nI rx), .int (nI mn), .ref arow, .ref abox, .ref awrd, .int (nI rd), .ref ablk, .ref amov, .int (nI za), .int (nI zb), .ref ahA, .ref ahB, .ref ahC, .ref anum, .ref amsg, .ref astr]))] sz) (va_Qi (fun (r : Int32) (_u : Unit) => r = (nI by_)) (fun _u t => gB dC dI cI (va_A [(mo, .inr (7, [.int (nI th), .int (nI by_), .ref abuf, .int (nI ks), .ref akey, .int (nI ts), .ref atwk, .int (nI rx), .int (nI mn), .ref arow, .ref abox, .ref awrd, .int (nI rd), .ref ablk, .ref amov, .int (nI za), .int (nI zb), .ref ahA, .ref ahB, .ref ahC, .ref anum, .ref amsg, .ref astr]))] sz) [(mo, .inr (7, [.int (nI 0), .int (nI by_), .ref abuf, .int (nI ks), .ref akey, .int (nI ts), .ref atwk, .int (nI rx), .int (nI mn), .ref arow, .ref abox, .ref awrd, .int (nI rd), .ref ablk, .ref amov, .int (nI za), .int (nI zb), .ref ahA, .ref ahB, .ref ahC, .ref anum, .ref amsg, .ref astr]))] t) (va_A [(mo, .inr (7, [.int (nI th), .int (nI by_), .ref abuf, .int (nI ks), .ref akey, .int (nI ts), .ref atwk, .int (nI rx), .int (nI mn), .ref arow, .ref abox, .ref awrd, .int (nI rd), .ref ablk, .ref amov, .int (nI za), .int (nI zb), .ref ahA, .ref ahB, .ref ahC, .ref anum, .ref amsg, .ref astr]))] sz)) 0 0 (va_A [(mo, .inr (7, [.int (nI th), .int (nI by_), .ref abuf, .int (nI ks), .ref akey, .int (nI ts), .ref atwk, .int (nI rx), .int (nI mn), .ref arow, .ref abox, .ref awrd, .int (nI rd), .ref ablk, .ref amov, .int (nI za), .int (nI zb), .ref ahA, .ref ahB, .ref ahC, .ref anum, .ref amsg, .ref astr]))] sz) := by
  refine Met.ofW (cc := cX8_count) (maxL := 2) (ret := (some .int)) (by decide) rfl ?_
  intro p e s m args below meth c s₁ B9 hml hv
  obtain ⟨rfl, hsz, ⟨hP, hK, hD0⟩⟩ := hv
  have hx := B9.exec
  have hb := B9.bytes
  have hr := B9.returns
  have hts := atoms_spec (ws := wsX8_count) B9.pre
  have hown : s.vm.findClass RX8 = some m.cls := findClass_of_methodNamed B9.named
  have hlocks := B9.notSynchronized
  subst hsz
  have hD := hD0.self (sz := s.heap.size)
  generalize hAe : va_A [(mo, .inr (7, [.int (nI th), .int (nI by_), .ref abuf, .int (nI ks), .ref akey, .int (nI ts), .ref atwk, .int (nI rx), .int (nI mn), .ref arow, .ref abox, .ref awrd, .int (nI rd), .ref ablk, .ref amov, .int (nI za), .int (nI zb), .ref ahA, .ref ahB, .ref ahC, .ref anum, .ref amsg, .ref astr]))] s.heap.size = A at hD ⊢
  have hA : ∀ q : Nat, s.heap.size ≤ q → A q := fun q h => by rw [← hAe]; exact Or.inr h
  have hS : va_S A s.heap s.heap [] := va_S.rf
  have hl := lv_entry ([.ref mo, .int (nI 4)]) (n := 2) (Nat.le_of_ble_eq_true rfl)
  rw [lg_entry_eq]
  generalize (lg_sl ([.ref mo, .int (nI 4)]) ++ List.replicate (2 - (lg_sl ([.ref mo, .int (nI 4)])).length) Slot.unset).toArray = ls at hl ⊢
  have hl : lv_has ls 2 [(0, .ref mo), (1, .int (nI 4))] := hl
  refine lv_aload_n hx hb dX8_count_0 rfl (lv_at hl 0 rfl) ?_
  refine lv_iconst (v := nI 0) hx hb dX8_count_1 (by decide) ?_
  refine gv_put (own := RX8) (D := (dC, dI)) (ci := 7) (C := RX8) (T := TX8) (N := 23) (ws' := [(mo, .inr (7, [.int (nI 0), .int (nI by_), .ref abuf, .int (nI ks), .ref akey, .int (nI ts), .ref atwk, .int (nI rx), .int (nI mn), .ref arow, .ref abox, .ref awrd, .int (nI rd), .ref ablk, .ref amov, .int (nI za), .int (nI zb), .ref ahA, .ref ahB, .ref ahC, .ref anum, .ref amsg, .ref astr]))]) hx hb hts (by decide +kernel) tyX8 tyX8_ok nmX8 hown hK hP hD hS 0 rfl rfl 0 (by decide) (hts (.fieldLink RX8 63 "NumeralCipherModel" "thrown" "I") (by decide +kernel)) rfl rfl (by decide +kernel) (Nat.le_of_ble_eq_true rfl) rfl dX8_count_2 (fun H locs hP hD hS => ?_)
  refine lv_aload_n hx hb dX8_count_5 rfl (lv_at hl 0 rfl) ?_
  refine lv_iload_n hx hb dX8_count_6 rfl (lv_at hl 1 rfl) ?_
  refine lv_i2l (v := lN 4) hx hb dX8_count_7 (nI_l (by omega)) ?_
  refine lv_lconst (v := lN 0) hx hb dX8_count_8 (by decide) ?_
  refine lv_ldc2 (own := RX8) (v := (4 : Int64)) hx hb hown (hts (.constantLong RX8 158 (4)) (by decide +kernel)) dX8_count_9 ?_
  refine gv_topl (y := lN 4) (by decide +kernel) ?_
  refine gv_callR (W.runS (As := [.long (lN 4), .long (lN 0), .long (lN 4)]) (rest := [.ref mo]) ⟨hx, hb, hml, hown, hts⟩ (c_X8_in_1 l (lN 4) (lN 0) (lN 4) ((in_nat (v := 4) (a := 0) (b := 4) (by omega) (by omega) (by omega)).1) ((in_nat (v := 4) (a := 0) (b := 4) (by omega) (by omega) (by omega)).2)) (va_cwS 3 hts gX8_count_X8_in rfl rfl rfl (by decide +kernel) ⟨Nat.le_of_ble_eq_true rfl, Nat.le_of_ble_eq_true rfl⟩) ⟨fun a U g mk q => q, fun U hU hW => ⟨rfl, trivial⟩⟩ rfl rfl hl.1 rfl (lv_room (Nat.le_of_ble_eq_true rfl)) dX8_count_12 ⟨Nat.zero_le _, Nat.zero_le _⟩) ?_
  refine gv_if_ne (tgt := 22) hx hb dX8_count_15 (by decide) (by omega) (fun c_15 => ?_) (fun c_15 => ?_)
  ·
    refine lv_iconst (v := nI 0) hx hb dX8_count_22 (by decide) ?_
    refine lv_iconst (v := nI 1) hx hb dX8_count_23 (by decide) ?_
    have hPc := hP.sub (ws' := [(mo, .inr (7, [.int (nI 0), .int (nI by_), .ref abuf, .int (nI ks), .ref akey, .int (nI ts), .ref atwk, .int (nI rx), .int (nI mn), .ref arow, .ref abox, .ref awrd, .int (nI rd), .ref ablk, .ref amov, .int (nI za), .int (nI zb), .ref ahA, .ref ahB, .ref ahC, .ref anum, .ref amsg, .ref astr]))]) [0] rfl
    have hDc := hD.sub (ws' := [(mo, .inr (7, [.int (nI 0), .int (nI by_), .ref abuf, .int (nI ks), .ref akey, .int (nI ts), .ref atwk, .int (nI rx), .int (nI mn), .ref arow, .ref abox, .ref awrd, .int (nI rd), .ref ablk, .ref amov, .int (nI za), .int (nI zb), .ref ahA, .ref ahB, .ref ahC, .ref anum, .ref amsg, .ref astr]))]) [0] (by decide) rfl
    refine gv_callR (W.runV (As := [.int (nI 0), .int (nI 1)]) (rest := []) ⟨hx, hb, hml, hown, hts⟩ (c_X8_refuses_0 l dC dI cI H.size mo abuf akey atwk arow abox awrd ablk amov ahA ahB ahC anum amsg astr 0 by_ ks ts rx mn rd za zb 1 ) (cwV 2 hts gX8_count_X8_refuses rfl rfl rfl (by decide +kernel) ⟨Nat.le_of_ble_eq_true rfl, Nat.le_of_ble_eq_true rfl⟩) ⟨gPc_blind, va_recv hK hPc (ci := 7) (q0 := 0) rfl rfl, gPc_pre hPc hK hDc⟩ rfl rfl hl.1 rfl (lv_room (Nat.le_of_ble_eq_true rfl)) dX8_count_24 ⟨Nat.zero_le _, Nat.zero_le _⟩) ?_
    clear hPc hDc
    refine gv_if_eq (tgt := 32) hx hb dX8_count_27 (by decide) (by omega) (fun c_27 => ?_) (fun c_27 => ?_)
    ·
      refine lv_iload_n hx hb dX8_count_32 rfl (lv_at hl 1 rfl) ?_
      refine gv_if_ne (tgt := 43) hx hb dX8_count_33 (by decide) (by omega) (fun c_33 => ?_) (fun c_33 => ?_)
      ·
        refine lv_iload_n hx hb dX8_count_43 rfl (lv_at hl 1 rfl) ?_
        refine lv_iconst (v := nI 1) hx hb dX8_count_44 (by decide) ?_
        refine gv_icmp_ne (tgt := 55) hx hb dX8_count_45 (by decide) (by omega) (by omega) (fun c_45 => ?_) (fun c_45 => ?_)
        ·
          refine lv_iload_n hx hb dX8_count_55 rfl (lv_at hl 1 rfl) ?_
          refine lv_iconst (v := nI 2) hx hb dX8_count_56 (by decide) ?_
          refine gv_icmp_ne (tgt := 67) hx hb dX8_count_57 (by decide) (by omega) (by omega) (fun c_57 => ?_) (fun c_57 => ?_)
          ·
            refine lv_iload_n hx hb dX8_count_67 rfl (lv_at hl 1 rfl) ?_
            refine lv_iconst (v := nI 3) hx hb dX8_count_68 (by decide) ?_
            refine gv_icmp_ne (tgt := 79) hx hb dX8_count_69 (by decide) (by omega) (by omega) (fun c_69 => ?_) (fun c_69 => ?_)
            ·
              refine lv_aload_n hx hb dX8_count_79 rfl (lv_at hl 0 rfl) ?_
              refine gv_get (own := RX8) (D := (dC, dI)) (ci := 7) (C := RX8) (T := TX8) (N := 23) (v := .int (nI by_)) hx hb hts (by decide +kernel) hown hK hP 0 rfl rfl 1 (by decide) (hts (.fieldLink RX8 141 "NumeralCipherModel" "bytes" "I") (by decide +kernel)) rfl rfl dX8_count_80 ?_
              exact W.iret (v := (nI by_)) hx hb hr (fun t ht hW => ⟨⟨_, (), rfl, rfl, gB_end ht hW hP hK hD⟩, hS.F ht⟩) hS.2.2 dX8_count_83
            ·
              exact absurd c_69 (by decide)
          ·
            exact absurd c_57 (by decide)
        ·
          exact absurd c_45 (by decide)
      ·
        exact absurd c_33 (by decide)
    ·
      exact absurd c_27 (by decide)
  ·
    exact absurd c_15 (by decide)

set_option maxHeartbeats 4000000 in
set_option maxRecDepth 100000 in
/-- count: b1 -/
theorem c_X8_count_b1 (l : Launch) (dC : Nat → ClassId) (dI : Nat → Nat → Nat) (cI : ClassId) (sz : Nat) (mo : Nat) (abuf : Nat) (akey : Nat) (atwk : Nat) (arow : Nat) (abox : Nat) (awrd : Nat) (ablk : Nat) (amov : Nat) (ahA : Nat) (ahB : Nat) (ahC : Nat) (anum : Nat) (amsg : Nat) (astr : Nat) (th : Nat) (by_ : Nat) (ks : Nat) (ts : Nat) (rx : Nat) (mn : Nat) (rd : Nat) (za : Nat) (zb : Nat) (x : Int32) (hbad : x.toInt < 0 ∨ 4 < x.toInt) : Met l yX8_count wsX8_count ({ frames := 1, cells := 0, slots := 0, locals := 25 }) (gPc dC dI cI [.ref mo, .int x] [(mo, .inr (7, [.int (nI th), .int (nI by_), .ref abuf, .int (nI ks), .ref akey, .int (nI ts), .ref atwk, .int (nI rx), .int (nI mn), .ref arow, .ref abox, .ref awrd, .int (nI rd), .ref ablk, .ref amov, .int (nI za), .int (nI zb), .ref ahA, .ref ahB, .ref ahC, .ref anum, .ref amsg, .ref astr]))] sz) (va_Qi (fun (r : Int32) (_u : Unit) => r = (nI 0)) (fun _u t => gB dC dI cI (va_A [(mo, .inr (7, [.int (nI th), .int (nI by_), .ref abuf, .int (nI ks), .ref akey, .int (nI ts), .ref atwk, .int (nI rx), .int (nI mn), .ref arow, .ref abox, .ref awrd, .int (nI rd), .ref ablk, .ref amov, .int (nI za), .int (nI zb), .ref ahA, .ref ahB, .ref ahC, .ref anum, .ref amsg, .ref astr]))] sz) [(mo, .inr (7, [.int (nI 1), .int (nI by_), .ref abuf, .int (nI ks), .ref akey, .int (nI ts), .ref atwk, .int (nI rx), .int (nI mn), .ref arow, .ref abox, .ref awrd, .int (nI rd), .ref ablk, .ref amov, .int (nI za), .int (nI zb), .ref ahA, .ref ahB, .ref ahC, .ref anum, .ref amsg, .ref astr]))] t) (va_A [(mo, .inr (7, [.int (nI th), .int (nI by_), .ref abuf, .int (nI ks), .ref akey, .int (nI ts), .ref atwk, .int (nI rx), .int (nI mn), .ref arow, .ref abox, .ref awrd, .int (nI rd), .ref ablk, .ref amov, .int (nI za), .int (nI zb), .ref ahA, .ref ahB, .ref ahC, .ref anum, .ref amsg, .ref astr]))] sz)) 0 0 (va_A [(mo, .inr (7, [.int (nI th), .int (nI by_), .ref abuf, .int (nI ks), .ref akey, .int (nI ts), .ref atwk, .int (nI rx), .int (nI mn), .ref arow, .ref abox, .ref awrd, .int (nI rd), .ref ablk, .ref amov, .int (nI za), .int (nI zb), .ref ahA, .ref ahB, .ref ahC, .ref anum, .ref amsg, .ref astr]))] sz) := by
  refine Met.ofW (cc := cX8_count) (maxL := 2) (ret := (some .int)) (by decide) rfl ?_
  intro p e s m args below meth c s₁ B9 hml hv
  obtain ⟨rfl, hsz, ⟨hP, hK, hD0⟩⟩ := hv
  have hx := B9.exec
  have hb := B9.bytes
  have hr := B9.returns
  have hts := atoms_spec (ws := wsX8_count) B9.pre
  have hown : s.vm.findClass RX8 = some m.cls := findClass_of_methodNamed B9.named
  have hlocks := B9.notSynchronized
  subst hsz
  have hD := hD0.self (sz := s.heap.size)
  generalize hAe : va_A [(mo, .inr (7, [.int (nI th), .int (nI by_), .ref abuf, .int (nI ks), .ref akey, .int (nI ts), .ref atwk, .int (nI rx), .int (nI mn), .ref arow, .ref abox, .ref awrd, .int (nI rd), .ref ablk, .ref amov, .int (nI za), .int (nI zb), .ref ahA, .ref ahB, .ref ahC, .ref anum, .ref amsg, .ref astr]))] s.heap.size = A at hD ⊢
  have hA : ∀ q : Nat, s.heap.size ≤ q → A q := fun q h => by rw [← hAe]; exact Or.inr h
  have hS : va_S A s.heap s.heap [] := va_S.rf
  have hl := lv_entry ([.ref mo, .int x]) (n := 2) (Nat.le_of_ble_eq_true rfl)
  rw [lg_entry_eq]
  generalize (lg_sl ([.ref mo, .int x]) ++ List.replicate (2 - (lg_sl ([.ref mo, .int x])).length) Slot.unset).toArray = ls at hl ⊢
  have hl : lv_has ls 2 [(0, .ref mo), (1, .int x)] := hl
  refine lv_aload_n hx hb dX8_count_0 rfl (lv_at hl 0 rfl) ?_
  refine lv_iconst (v := nI 0) hx hb dX8_count_1 (by decide) ?_
  refine gv_put (own := RX8) (D := (dC, dI)) (ci := 7) (C := RX8) (T := TX8) (N := 23) (ws' := [(mo, .inr (7, [.int (nI 0), .int (nI by_), .ref abuf, .int (nI ks), .ref akey, .int (nI ts), .ref atwk, .int (nI rx), .int (nI mn), .ref arow, .ref abox, .ref awrd, .int (nI rd), .ref ablk, .ref amov, .int (nI za), .int (nI zb), .ref ahA, .ref ahB, .ref ahC, .ref anum, .ref amsg, .ref astr]))]) hx hb hts (by decide +kernel) tyX8 tyX8_ok nmX8 hown hK hP hD hS 0 rfl rfl 0 (by decide) (hts (.fieldLink RX8 63 "NumeralCipherModel" "thrown" "I") (by decide +kernel)) rfl rfl (by decide +kernel) (Nat.le_of_ble_eq_true rfl) rfl dX8_count_2 (fun H locs hP hD hS => ?_)
  refine lv_aload_n hx hb dX8_count_5 rfl (lv_at hl 0 rfl) ?_
  refine lv_iload_n hx hb dX8_count_6 rfl (lv_at hl 1 rfl) ?_
  refine lv_i2l (v := x.toInt64) hx hb dX8_count_7 rfl ?_
  refine lv_lconst (v := lN 0) hx hb dX8_count_8 (by decide) ?_
  refine lv_ldc2 (own := RX8) (v := (4 : Int64)) hx hb hown (hts (.constantLong RX8 158 (4)) (by decide +kernel)) dX8_count_9 ?_
  refine gv_topl (y := lN 4) (by decide +kernel) ?_
  refine gv_callR (W.runS (As := [.long x.toInt64, .long (lN 0), .long (lN 4)]) (rest := [.ref mo]) ⟨hx, hb, hml, hown, hts⟩ (c_X8_in_0 l x.toInt64 (lN 0) (lN 4) (in_raw (pk_lT (by decide)) (pk_lT (by decide)) (by omega))) (va_cwS 3 hts gX8_count_X8_in rfl rfl rfl (by decide +kernel) ⟨Nat.le_of_ble_eq_true rfl, Nat.le_of_ble_eq_true rfl⟩) ⟨fun a U g mk q => q, fun U hU hW => ⟨rfl, trivial⟩⟩ rfl rfl hl.1 rfl (lv_room (Nat.le_of_ble_eq_true rfl)) dX8_count_12 ⟨Nat.zero_le _, Nat.zero_le _⟩) ?_
  refine gv_if_ne (tgt := 22) hx hb dX8_count_15 (by decide) (by omega) (fun c_15 => ?_) (fun c_15 => ?_)
  ·
    exact absurd c_15 (by decide)
  ·
    refine lv_iconst (v := nI 1) hx hb dX8_count_18 (by decide) ?_
    refine lv_goto (tgt := 23) hx hb dX8_count_19 (by decide) ?_
    refine lv_iconst (v := nI 1) hx hb dX8_count_23 (by decide) ?_
    have hPc := hP.sub (ws' := [(mo, .inr (7, [.int (nI 0), .int (nI by_), .ref abuf, .int (nI ks), .ref akey, .int (nI ts), .ref atwk, .int (nI rx), .int (nI mn), .ref arow, .ref abox, .ref awrd, .int (nI rd), .ref ablk, .ref amov, .int (nI za), .int (nI zb), .ref ahA, .ref ahB, .ref ahC, .ref anum, .ref amsg, .ref astr]))]) [0] rfl
    have hDc := hD.sub (ws' := [(mo, .inr (7, [.int (nI 0), .int (nI by_), .ref abuf, .int (nI ks), .ref akey, .int (nI ts), .ref atwk, .int (nI rx), .int (nI mn), .ref arow, .ref abox, .ref awrd, .int (nI rd), .ref ablk, .ref amov, .int (nI za), .int (nI zb), .ref ahA, .ref ahB, .ref ahC, .ref anum, .ref amsg, .ref astr]))]) [0] (by decide) rfl
    have hFc := va_free (wc := [(mo, .inr (7, [.int (nI 0), .int (nI by_), .ref abuf, .int (nI ks), .ref akey, .int (nI ts), .ref atwk, .int (nI rx), .int (nI mn), .ref arow, .ref abox, .ref awrd, .int (nI rd), .ref ablk, .ref amov, .int (nI za), .int (nI zb), .ref ahA, .ref ahB, .ref ahC, .ref anum, .ref amsg, .ref astr]))]) hD hS hA [0] rfl
    refine va_calli (va_runV (As := [.int (nI 1), .int (nI 1)]) (rest := []) ⟨hx, hb, hml, hown, hts⟩ (c_X8_refuses_1 l dC dI cI H.size mo abuf akey atwk arow abox awrd ablk amov ahA ahB ahC anum amsg astr 0 by_ ks ts rx mn rd za zb 1 (by omega) (by omega)) (cwV 2 hts gX8_count_X8_refuses rfl rfl rfl (by decide +kernel) ⟨Nat.le_of_ble_eq_true rfl, Nat.le_of_ble_eq_true rfl⟩) ⟨gPc_blind, va_recv hK hPc (ci := 7) (q0 := 0) rfl rfl, gPc_pre hPc hK hDc⟩ rfl rfl hl.1 rfl (lv_room (Nat.le_of_ble_eq_true rfl)) dX8_count_24 ⟨Nat.zero_le _, Nat.zero_le _⟩) hS (fun q _ h => hFc q h) hFc (fun r9 u8 t8 H1 locs ht hvm hw hB hz1 hk1 hS => ?_)
    try dsimp only at hw hB
    obtain ⟨hP, hD⟩ := gB_join (wr := []) (w2 := [(mo, .inr (7, [.int (nI 1), .int (nI by_), .ref abuf, .int (nI ks), .ref akey, .int (nI ts), .ref atwk, .int (nI rx), .int (nI mn), .ref arow, .ref abox, .ref awrd, .int (nI rd), .ref ablk, .ref amov, .int (nI za), .int (nI zb), .ref ahA, .ref ahB, .ref ahC, .ref anum, .ref amsg, .ref astr]))]) hP hD [0] [] rfl rfl (by decide) (by decide) hk1 hFc ht hB rfl
    clear hk1 hz1 ht hB hvm hPc hDc hFc
    generalize H1 = H at hP hS ⊢
    subst hw
    refine gv_if_eq (tgt := 32) hx hb dX8_count_27 (by decide) (by omega) (fun c_27 => ?_) (fun c_27 => ?_)
    ·
      exact absurd c_27 (by decide)
    ·
      refine lv_iconst (v := nI 0) hx hb dX8_count_30 (by decide) ?_
      exact W.iret (v := (nI 0)) hx hb hr (fun t ht hW => ⟨⟨_, (), rfl, rfl, gB_end ht hW hP hK hD⟩, hS.F ht⟩) hS.2.2 dX8_count_31

set_option maxHeartbeats 4000000 in
set_option maxRecDepth 100000 in
/-- thrown() -/
theorem c_X8_thrown (l : Launch) (dC : Nat → ClassId) (dI : Nat → Nat → Nat) (cI : ClassId) (sz : Nat) (mo : Nat) (abuf : Nat) (akey : Nat) (atwk : Nat) (arow : Nat) (abox : Nat) (awrd : Nat) (ablk : Nat) (amov : Nat) (ahA : Nat) (ahB : Nat) (ahC : Nat) (anum : Nat) (amsg : Nat) (astr : Nat) (th : Nat) (by_ : Nat) (ks : Nat) (ts : Nat) (rx : Nat) (mn : Nat) (rd : Nat) (za : Nat) (zb : Nat) : Met l yX8_thrown wsX8_thrown ({ frames := 0, cells := 0, slots := 0, locals := 0 }) (gPc dC dI cI [.ref mo] [(mo, .inr (7, [.int (nI th), .int (nI by_), .ref abuf, .int (nI ks), .ref akey, .int (nI ts), .ref atwk, .int (nI rx), .int (nI mn), .ref arow, .ref abox, .ref awrd, .int (nI rd), .ref ablk, .ref amov, .int (nI za), .int (nI zb), .ref ahA, .ref ahB, .ref ahC, .ref anum, .ref amsg, .ref astr]))] sz) (QcRead (nI th)) 0 0 (fun _ => False) := by
  refine Met.ofW (cc := cX8_thrown) (maxL := 1) (ret := (some .int)) (by decide) rfl ?_
  intro p e s m args below meth c s₁ B9 hml hv
  obtain ⟨rfl, hsz, ⟨hP, hK, hD0⟩⟩ := hv
  have hx := B9.exec
  have hb := B9.bytes
  have hr := B9.returns
  have hts := atoms_spec (ws := wsX8_thrown) B9.pre
  have hown : s.vm.findClass RX8 = some m.cls := findClass_of_methodNamed B9.named
  have hlocks := B9.notSynchronized
  subst hsz
  have hD := hD0.self (sz := s.heap.size)
  generalize hAe : va_A [(mo, .inr (7, [.int (nI th), .int (nI by_), .ref abuf, .int (nI ks), .ref akey, .int (nI ts), .ref atwk, .int (nI rx), .int (nI mn), .ref arow, .ref abox, .ref awrd, .int (nI rd), .ref ablk, .ref amov, .int (nI za), .int (nI zb), .ref ahA, .ref ahB, .ref ahC, .ref anum, .ref amsg, .ref astr]))] s.heap.size = A at hD
  have hA : ∀ q : Nat, s.heap.size ≤ q → A q := fun q h => by rw [← hAe]; exact Or.inr h
  have hS : va_S A s.heap s.heap [] := va_S.rf
  have hl := lv_entry ([.ref mo]) (n := 1) (Nat.le_of_ble_eq_true rfl)
  rw [lg_entry_eq]
  generalize (lg_sl ([.ref mo]) ++ List.replicate (1 - (lg_sl ([.ref mo])).length) Slot.unset).toArray = ls at hl ⊢
  have hl : lv_has ls 1 [(0, .ref mo)] := hl
  refine lv_aload_n hx hb dX8_thrown_0 rfl (lv_at hl 0 rfl) ?_
  refine gv_get (own := RX8) (D := (dC, dI)) (ci := 7) (C := RX8) (T := TX8) (N := 23) (v := .int (nI th)) hx hb hts (by decide +kernel) hown hK hP 0 rfl rfl 0 (by decide) (hts (.fieldLink RX8 63 "NumeralCipherModel" "thrown" "I") (by decide +kernel)) rfl rfl dX8_thrown_1 ?_
  exact W.iret (v := (nI th)) hx hb hr (fun t ht hW => ⟨rfl, ht⟩) (fun q h => by cases h) dX8_thrown_4
