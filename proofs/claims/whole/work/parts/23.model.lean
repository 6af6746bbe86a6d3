set_option maxHeartbeats 4000000 in
set_option maxRecDepth 100000 in
/-- part(u) -/
theorem c_X8_part (l : Launch) (dC : Nat → ClassId) (dI : Nat → Nat → Nat) (cI : ClassId) (sz : Nat) (mo : Nat) (abuf : Nat) (akey : Nat) (atwk : Nat) (arow : Nat) (abox : Nat) (awrd : Nat) (ablk : Nat) (amov : Nat) (ahA : Nat) (ahB : Nat) (ahC : Nat) (anum : Nat) (amsg : Nat) (astr : Nat) (th : Nat) (by_ : Nat) (ks : Nat) (ts : Nat) (rx : Nat) (mn : Nat) (rd : Nat) (za : Nat) (zb : Nat) (uu : Nat) (ro : Nat → Nat) (a0 : Nat → Nat) (b0 : Nat → Nat) (hu : uu ≤ mn) (hm : mn ≤ 64) : Met l yX8_part wsX8_part ({ frames := 0, cells := 0, slots := 0, locals := 0 }) (gPc dC dI cI [.ref mo, .int (nI uu)] [(mo, .inr (7, [.int (nI th), .int (nI by_), .ref abuf, .int (nI ks), .ref akey, .int (nI ts), .ref atwk, .int (nI rx), .int (nI mn), .ref arow, .ref abox, .ref awrd, .int (nI rd), .ref ablk, .ref amov, .int (nI za), .int (nI zb), .ref ahA, .ref ahB, .ref ahC, .ref anum, .ref amsg, .ref astr])), (arow, .inl (cI, 64, .inl (gA ro))), (ahA, .inl (cI, 64, .inl (gA a0))), (ahB, .inl (cI, 64, .inl (gA b0)))] sz) (va_Qv (fun u : (Nat → Nat) × (Nat → Nat) => (∀ q, q < uu → u.1 q = ro q) ∧ (∀ q, q < mn - uu → u.2 q = ro (uu + q))) (fun u t => gB dC dI cI (va_A [(mo, .inr (7, [.int (nI th), .int (nI by_), .ref abuf, .int (nI ks), .ref akey, .int (nI ts), .ref atwk, .int (nI rx), .int (nI mn), .ref arow, .ref abox, .ref awrd, .int (nI rd), .ref ablk, .ref amov, .int (nI za), .int (nI zb), .ref ahA, .ref ahB, .ref ahC, .ref anum, .ref amsg, .ref astr])), (arow, .inl (cI, 64, .inl (gA ro))), (ahA, .inl (cI, 64, .inl (gA a0))), (ahB, .inl (cI, 64, .inl (gA b0)))] sz) [(mo, .inr (7, [.int (nI th), .int (nI by_), .ref abuf, .int (nI ks), .ref akey, .int (nI ts), .ref atwk, .int (nI rx), .int (nI mn), .ref arow, .ref abox, .ref awrd, .int (nI rd), .ref ablk, .ref amov, .int (nI uu), .int (nI (mn - uu)), .ref ahA, .ref ahB, .ref ahC, .ref anum, .ref amsg, .ref astr])), (arow, .inl (cI, 64, .inl (gA ro))), (ahA, .inl (cI, 64, .inl (gA u.1))), (ahB, .inl (cI, 64, .inl (gA u.2)))] t) (va_A [(mo, .inr (7, [.int (nI th), .int (nI by_), .ref abuf, .int (nI ks), .ref akey, .int (nI ts), .ref atwk, .int (nI rx), .int (nI mn), .ref arow, .ref abox, .ref awrd, .int (nI rd), .ref ablk, .ref amov, .int (nI za), .int (nI zb), .ref ahA, .ref ahB, .ref ahC, .ref anum, .ref amsg, .ref astr])), (arow, .inl (cI, 64, .inl (gA ro))), (ahA, .inl (cI, 64, .inl (gA a0))), (ahB, .inl (cI, 64, .inl (gA b0)))] sz)) 0 0 (va_A [(mo, .inr (7, [.int (nI th), .int (nI by_), .ref abuf, .int (nI ks), .ref akey, .int (nI ts), .ref atwk, .int (nI rx), .int (nI mn), .ref arow, .ref abox, .ref awrd, .int (nI rd), .ref ablk, .ref amov, .int (nI za), .int (nI zb), .ref ahA, .ref ahB, .ref ahC, .ref anum, .ref amsg, .ref astr])), (arow, .inl (cI, 64, .inl (gA ro))), (ahA, .inl (cI, 64, .inl (gA a0))), (ahB, .inl (cI, 64, .inl (gA b0)))] sz) := by
  refine Met.ofW (cc := cX8_part) (maxL := 3) (ret := none) (by decide) rfl ?_
  intro p e s m args below meth c s₁ B9 hml hv
  obtain ⟨rfl, hsz, ⟨hP, hK, hD0⟩⟩ := hv
  have hx := B9.exec
  have hb := B9.bytes
  have hr := B9.returns
  have hts := atoms_spec (ws := wsX8_part) B9.pre
  have hown : s.vm.findClass RX8 = some m.cls := findClass_of_methodNamed B9.named
  have hlocks := B9.notSynchronized
  subst hsz
  have hD := hD0.self (sz := s.heap.size)
  generalize hAe : va_A [(mo, .inr (7, [.int (nI th), .int (nI by_), .ref abuf, .int (nI ks), .ref akey, .int (nI ts), .ref atwk, .int (nI rx), .int (nI mn), .ref arow, .ref abox, .ref awrd, .int (nI rd), .ref ablk, .ref amov, .int (nI za), .int (nI zb), .ref ahA, .ref ahB, .ref ahC, .ref anum, .ref amsg, .ref astr])), (arow, .inl (cI, 64, .inl (gA ro))), (ahA, .inl (cI, 64, .inl (gA a0))), (ahB, .inl (cI, 64, .inl (gA b0)))] s.heap.size = A at hD ⊢
  have hA : ∀ q : Nat, s.heap.size ≤ q → A q := fun q h => by rw [← hAe]; exact Or.inr h
  have hS : va_S A s.heap s.heap [] := va_S.rf
  have hl := lv_entry ([.ref mo, .int (nI uu)]) (n := 3) (Nat.le_of_ble_eq_true rfl)
  rw [lg_entry_eq]
  generalize (lg_sl ([.ref mo, .int (nI uu)]) ++ List.replicate (3 - (lg_sl ([.ref mo, .int (nI uu)])).length) Slot.unset).toArray = ls at hl ⊢
  have hl : lv_has ls 3 [(0, .ref mo), (1, .int (nI uu))] := hl
  refine lv_aload_n hx hb dX8_part_0 rfl (lv_at hl 0 rfl) ?_
  refine lv_iload_n hx hb dX8_part_1 rfl (lv_at hl 1 rfl) ?_
  refine gv_put (own := RX8) (D := (dC, dI)) (ci := 7) (C := RX8) (T := TX8) (N := 23) (ws' := [(mo, .inr (7, [.int (nI th), .int (nI by_), .ref abuf, .int (nI ks), .ref akey, .int (nI ts), .ref atwk, .int (nI rx), .int (nI mn), .ref arow, .ref abox, .ref awrd, .int (nI rd), .ref ablk, .ref amov, .int (nI uu), .int (nI zb), .ref ahA, .ref ahB, .ref ahC, .ref anum, .ref amsg, .ref astr])), (arow, .inl (cI, 64, .inl (gA ro))), (ahA, .inl (cI, 64, .inl (gA a0))), (ahB, .inl (cI, 64, .inl (gA b0)))]) hx hb hts (by decide +kernel) tyX8 tyX8_ok nmX8 hown hK hP hD hS 0 rfl rfl 15 (by decide) (hts (.fieldLink RX8 86 "NumeralCipherModel" "sizeA" "I") (by decide +kernel)) rfl rfl (by decide +kernel) (Nat.le_of_ble_eq_true rfl) rfl dX8_part_2 (fun H locs hP hD hS => ?_)
  refine lv_aload_n hx hb dX8_part_5 rfl (lv_at hl 0 rfl) ?_
  refine lv_aload_n hx hb dX8_part_6 rfl (lv_at hl 0 rfl) ?_
  refine gv_get (own := RX8) (D := (dC, dI)) (ci := 7) (C := RX8) (T := TX8) (N := 23) (v := .int (nI mn)) hx hb hts (by decide +kernel) hown hK hP 0 rfl rfl 8 (by decide) (hts (.fieldLink RX8 89 "NumeralCipherModel" "many" "I") (by decide +kernel)) rfl rfl dX8_part_7 ?_
  refine lv_iload_n hx hb dX8_part_10 rfl (lv_at hl 1 rfl) ?_
  refine gv_isub (r := mn - uu) hx hb dX8_part_11 (by omega) ?_
  refine gv_put (own := RX8) (D := (dC, dI)) (ci := 7) (C := RX8) (T := TX8) (N := 23) (ws' := [(mo, .inr (7, [.int (nI th), .int (nI by_), .ref abuf, .int (nI ks), .ref akey, .int (nI ts), .ref atwk, .int (nI rx), .int (nI mn), .ref arow, .ref abox, .ref awrd, .int (nI rd), .ref ablk, .ref amov, .int (nI uu), .int (nI (mn - uu)), .ref ahA, .ref ahB, .ref ahC, .ref anum, .ref amsg, .ref astr])), (arow, .inl (cI, 64, .inl (gA ro))), (ahA, .inl (cI, 64, .inl (gA a0))), (ahB, .inl (cI, 64, .inl (gA b0)))]) hx hb hts (by decide +kernel) tyX8 tyX8_ok nmX8 hown hK hP hD hS 0 rfl rfl 16 (by decide) (hts (.fieldLink RX8 92 "NumeralCipherModel" "sizeB" "I") (by decide +kernel)) rfl rfl (by decide +kernel) (Nat.le_of_ble_eq_true rfl) rfl dX8_part_12 (fun H locs hP hD hS => ?_)
  refine lv_iconst (v := nI 0) hx hb dX8_part_15 (by decide) ?_
  refine lv_istore_n (lv' := [(2, .int (nI 0)), (0, .ref mo), (1, .int (nI uu))]) hx hb dX8_part_16 rfl hl (by decide) rfl (fun ls hl => ?_)
  refine gw_lab (G := fun R args Q => ∀ (n9_17 : Nat) (i : Nat) (f : Nat → Nat) (g : Nat → Nat), n9_17 = mn - i → (i ≤ mn) → (∀ q, q < i → q < uu → f q = ro q) → (∀ q, uu + q < i → g q = ro (uu + q)) → ∀ (H : Heap) (locs : List Loc), va_P (dC, dI) vwCl [(mo, .inr (7, [.int (nI th), .int (nI by_), .ref abuf, .int (nI ks), .ref akey, .int (nI ts), .ref atwk, .int (nI rx), .int (nI mn), .ref arow, .ref abox, .ref awrd, .int (nI rd), .ref ablk, .ref amov, .int (nI uu), .int (nI (mn - uu)), .ref ahA, .ref ahB, .ref ahC, .ref anum, .ref amsg, .ref astr])), (arow, .inl (cI, 64, .inl (gA ro))), (ahA, .inl (cI, 64, .inl (gA f))), (ahB, .inl (cI, 64, .inl (gA g)))] H → va_D A [(mo, .inr (7, [.int (nI th), .int (nI by_), .ref abuf, .int (nI ks), .ref akey, .int (nI ts), .ref atwk, .int (nI rx), .int (nI mn), .ref arow, .ref abox, .ref awrd, .int (nI rd), .ref ablk, .ref amov, .int (nI uu), .int (nI (mn - uu)), .ref ahA, .ref ahB, .ref ahC, .ref anum, .ref amsg, .ref astr])), (arow, .inl (cI, 64, .inl (gA ro))), (ahA, .inl (cI, 64, .inl (gA f))), (ahB, .inl (cI, 64, .inl (gA g)))] → va_S A s.heap H locs → ∀ (ls : Array Slot), lv_has ls 3 [(2, .int (nI i)), (0, .ref mo), (1, .int (nI uu))] → W p l e R s m args below meth c H locs 0 0 Q (F0 m 17 ls [])) ?_ (fun L17 => ?_)
  ·
    intro n9_17
    induction n9_17 using Nat.strongRecOn with
    | ind n9_17 ih9_17 =>
      intro i f g hmu9_17 hi hf hg H locs hP hD hS ls hl
      refine lv_iload_n hx hb dX8_part_17 rfl (lv_at hl 0 rfl) ?_
      refine lv_aload_n hx hb dX8_part_18 rfl (lv_at hl 1 rfl) ?_
      refine gv_get (own := RX8) (D := (dC, dI)) (ci := 7) (C := RX8) (T := TX8) (N := 23) (v := .int (nI mn)) hx hb hts (by decide +kernel) hown hK hP 0 rfl rfl 8 (by decide) (hts (.fieldLink RX8 89 "NumeralCipherModel" "many" "I") (by decide +kernel)) rfl rfl dX8_part_19 ?_
      refine gv_icmp_ge (tgt := 65) hx hb dX8_part_22 (by decide) (by omega) (by omega) (fun c_22 => ?_) (fun c_22 => ?_)
      ·
        have e9 : i = mn := by omega
        rw [e9] at hf hg
        exact W.vret hx hb hr (fun t ht hW => ⟨⟨(f, g), rfl, ⟨(fun q h1 => hf q (by omega) h1), (fun q h1 => hg q (by omega))⟩, gB_end ht hW hP hK hD⟩, hS.F ht⟩) hS.2.2 dX8_part_65
      ·
        refine gw_lab (G := fun R args Q => ∀ (f2 : Nat → Nat) (g2 : Nat → Nat), (∀ q, q < i + 1 → q < uu → f2 q = ro q) → (∀ q, uu + q < i + 1 → g2 q = ro (uu + q)) → ∀ (H : Heap) (locs : List Loc), va_P (dC, dI) vwCl [(mo, .inr (7, [.int (nI th), .int (nI by_), .ref abuf, .int (nI ks), .ref akey, .int (nI ts), .ref atwk, .int (nI rx), .int (nI mn), .ref arow, .ref abox, .ref awrd, .int (nI rd), .ref ablk, .ref amov, .int (nI uu), .int (nI (mn - uu)), .ref ahA, .ref ahB, .ref ahC, .ref anum, .ref amsg, .ref astr])), (arow, .inl (cI, 64, .inl (gA ro))), (ahA, .inl (cI, 64, .inl (gA f2))), (ahB, .inl (cI, 64, .inl (gA g2)))] H → va_D A [(mo, .inr (7, [.int (nI th), .int (nI by_), .ref abuf, .int (nI ks), .ref akey, .int (nI ts), .ref atwk, .int (nI rx), .int (nI mn), .ref arow, .ref abox, .ref awrd, .int (nI rd), .ref ablk, .ref amov, .int (nI uu), .int (nI (mn - uu)), .ref ahA, .ref ahB, .ref ahC, .ref anum, .ref amsg, .ref astr])), (arow, .inl (cI, 64, .inl (gA ro))), (ahA, .inl (cI, 64, .inl (gA f2))), (ahB, .inl (cI, 64, .inl (gA g2)))] → va_S A s.heap H locs → ∀ (ls : Array Slot), lv_has ls 3 [(2, .int (nI i)), (0, .ref mo), (1, .int (nI uu))] → W p l e R s m args below meth c H locs 0 0 Q (F0 m 59 ls [])) ?_ (fun L59 => ?_)
        ·
          intro f2 g2 hf2 hg2 H locs hP hD hS ls hl
          refine lv_iinc (v := nI (i + 1)) (lv' := [(2, .int (nI (i + 1))), (0, .ref mo), (1, .int (nI uu))]) hx hb dX8_part_59 hl (k := 0) rfl (gz_inc1 _) (by decide) rfl (fun ls hl => ?_)
          refine lv_goto (tgt := 17) hx hb dX8_part_62 (by decide) ?_
          exact ih9_17 _ (by omega) (i + 1) f2 g2 rfl (by omega) hf2 hg2 _ _ hP hD hS _ hl
        refine lv_iload_n hx hb dX8_part_25 rfl (lv_at hl 0 rfl) ?_
        refine lv_iload_n hx hb dX8_part_26 rfl (lv_at hl 2 rfl) ?_
        refine gv_icmp_ge (tgt := 45) hx hb dX8_part_27 (by decide) (by omega) (by omega) (fun c_27 => ?_) (fun c_27 => ?_)
        ·
          refine lv_aload_n hx hb dX8_part_45 rfl (lv_at hl 1 rfl) ?_
          refine gv_get (own := RX8) (D := (dC, dI)) (ci := 7) (C := RX8) (T := TX8) (N := 23) (v := .ref ahB) hx hb hts (by decide +kernel) hown hK hP 0 rfl rfl 18 (by decide) (hts (.fieldLink RX8 44 "NumeralCipherModel" "halfB" "[I") (by decide +kernel)) rfl rfl dX8_part_46 ?_
          refine lv_iload_n hx hb dX8_part_49 rfl (lv_at hl 0 rfl) ?_
          refine lv_iload_n hx hb dX8_part_50 rfl (lv_at hl 2 rfl) ?_
          refine gv_isub (r := i - uu) hx hb dX8_part_51 (by omega) ?_
          refine lv_aload_n hx hb dX8_part_52 rfl (lv_at hl 1 rfl) ?_
          refine gv_get (own := RX8) (D := (dC, dI)) (ci := 7) (C := RX8) (T := TX8) (N := 23) (v := .ref arow) hx hb hts (by decide +kernel) hown hK hP 0 rfl rfl 9 (by decide) (hts (.fieldLink RX8 26 "NumeralCipherModel" "row" "[I") (by decide +kernel)) rfl rfl dX8_part_53 ?_
          refine lv_iload_n hx hb dX8_part_56 rfl (lv_at hl 0 rfl) ?_
          refine gv_iald hx hb hK hP 1 0 rfl rfl (by omega) (by omega) dX8_part_57 ?_
          refine gv_iast (ws' := [(mo, .inr (7, [.int (nI th), .int (nI by_), .ref abuf, .int (nI ks), .ref akey, .int (nI ts), .ref atwk, .int (nI rx), .int (nI mn), .ref arow, .ref abox, .ref awrd, .int (nI rd), .ref ablk, .ref amov, .int (nI uu), .int (nI (mn - uu)), .ref ahA, .ref ahB, .ref ahC, .ref anum, .ref amsg, .ref astr])), (arow, .inl (cI, 64, .inl (gA ro))), (ahA, .inl (cI, 64, .inl (gA f))), (ahB, .inl (cI, 64, .inl (gA (gU g (i - uu) (ro i)))))]) hx hb hK hP hD hS 3 0 rfl rfl rfl (by omega) (by omega) dX8_part_58 (fun H locs hP hD hS => ?_)
          exact L59 f (gU g (i - uu) (ro i)) (fun q h1 h2 => hf q (by omega) h2) (part_b hg (by omega)) _ _ hP hD hS _ hl
        ·
          refine lv_aload_n hx hb dX8_part_30 rfl (lv_at hl 1 rfl) ?_
          refine gv_get (own := RX8) (D := (dC, dI)) (ci := 7) (C := RX8) (T := TX8) (N := 23) (v := .ref ahA) hx hb hts (by decide +kernel) hown hK hP 0 rfl rfl 17 (by decide) (hts (.fieldLink RX8 41 "NumeralCipherModel" "halfA" "[I") (by decide +kernel)) rfl rfl dX8_part_31 ?_
          refine lv_iload_n hx hb dX8_part_34 rfl (lv_at hl 0 rfl) ?_
          refine lv_aload_n hx hb dX8_part_35 rfl (lv_at hl 1 rfl) ?_
          refine gv_get (own := RX8) (D := (dC, dI)) (ci := 7) (C := RX8) (T := TX8) (N := 23) (v := .ref arow) hx hb hts (by decide +kernel) hown hK hP 0 rfl rfl 9 (by decide) (hts (.fieldLink RX8 26 "NumeralCipherModel" "row" "[I") (by decide +kernel)) rfl rfl dX8_part_36 ?_
          refine lv_iload_n hx hb dX8_part_39 rfl (lv_at hl 0 rfl) ?_
          refine gv_iald hx hb hK hP 1 0 rfl rfl (by omega) (by omega) dX8_part_40 ?_
          refine gv_iast (ws' := [(mo, .inr (7, [.int (nI th), .int (nI by_), .ref abuf, .int (nI ks), .ref akey, .int (nI ts), .ref atwk, .int (nI rx), .int (nI mn), .ref arow, .ref abox, .ref awrd, .int (nI rd), .ref ablk, .ref amov, .int (nI uu), .int (nI (mn - uu)), .ref ahA, .ref ahB, .ref ahC, .ref anum, .ref amsg, .ref astr])), (arow, .inl (cI, 64, .inl (gA ro))), (ahA, .inl (cI, 64, .inl (gA (gU f i (ro i))))), (ahB, .inl (cI, 64, .inl (gA g)))]) hx hb hK hP hD hS 2 0 rfl rfl rfl (by omega) (by omega) dX8_part_41 (fun H locs hP hD hS => ?_)
          refine lv_goto (tgt := 59) hx hb dX8_part_42 (by decide) ?_
          exact L59 (gU f i (ro i)) g (part_a hf) (fun q h1 => absurd h1 (by omega)) _ _ hP hD hS _ hl
  exact L17 _ 0 a0 b0 rfl (by omega) (fun q h1 _ => absurd h1 (Nat.not_lt_zero q)) (fun q h1 => absurd h1 (Nat.not_lt_zero _)) _ _ hP hD hS _ hl

set_option maxHeartbeats 4000000 in
set_option maxRecDepth 100000 in
/-- change(m, 0) -/
theorem c_X8_change_0 (l : Launch) (dC : Nat → ClassId) (dI : Nat → Nat → Nat) (cI : ClassId) (sz : Nat) (mo : Nat) (abuf : Nat) (akey : Nat) (atwk : Nat) (arow : Nat) (abox : Nat) (awrd : Nat) (ablk : Nat) (amov : Nat) (ahA : Nat) (ahB : Nat) (ahC : Nat) (anum : Nat) (amsg : Nat) (astr : Nat) (th : Nat) (by_ : Nat) (ks : Nat) (ts : Nat) (rx : Nat) (mn : Nat) (rd : Nat) (za : Nat) (zb : Nat) (mm : Nat) (ha : Nat → Nat) (hb_ : Nat → Nat) (hc : Nat → Nat) : Met l yX8_change wsX8_change ({ frames := 0, cells := 0, slots := 0, locals := 0 }) (gPc dC dI cI [.ref mo, .int (nI mm), .int (nI 0)] [(mo, .inr (7, [.int (nI th), .int (nI by_), .ref abuf, .int (nI ks), .ref akey, .int (nI ts), .ref atwk, .int (nI rx), .int (nI mn), .ref arow, .ref abox, .ref awrd, .int (nI rd), .ref ablk, .ref amov, .int (nI za), .int (nI zb), .ref ahA, .ref ahB, .ref ahC, .ref anum, .ref amsg, .ref astr])), (ahA, .inl (cI, 64, .inl (gA ha))), (ahB, .inl (cI, 64, .inl (gA hb_))), (ahC, .inl (cI, 64, .inl (gA hc)))] sz) (va_Qv (fun u : (Nat → Nat) × (Nat → Nat) => (∀ q, q < 64 → u.1 q = hb_ q) ∧ (∀ q, q < 64 → u.2 q = hc q)) (fun u t => gB dC dI cI (va_A [(mo, .inr (7, [.int (nI th), .int (nI by_), .ref abuf, .int (nI ks), .ref akey, .int (nI ts), .ref atwk, .int (nI rx), .int (nI mn), .ref arow, .ref abox, .ref awrd, .int (nI rd), .ref ablk, .ref amov, .int (nI za), .int (nI zb), .ref ahA, .ref ahB, .ref ahC, .ref anum, .ref amsg, .ref astr])), (ahA, .inl (cI, 64, .inl (gA ha))), (ahB, .inl (cI, 64, .inl (gA hb_))), (ahC, .inl (cI, 64, .inl (gA hc)))] sz) [(mo, .inr (7, [.int (nI th), .int (nI by_), .ref abuf, .int (nI ks), .ref akey, .int (nI ts), .ref atwk, .int (nI rx), .int (nI mn), .ref arow, .ref abox, .ref awrd, .int (nI rd), .ref ablk, .ref amov, .int (nI zb), .int (nI mm), .ref ahA, .ref ahB, .ref ahC, .ref anum, .ref amsg, .ref astr])), (ahA, .inl (cI, 64, .inl (gA u.1))), (ahB, .inl (cI, 64, .inl (gA u.2))), (ahC, .inl (cI, 64, .inl (gA hc)))] t) (va_A [(mo, .inr (7, [.int (nI th), .int (nI by_), .ref abuf, .int (nI ks), .ref akey, .int (nI ts), .ref atwk, .int (nI rx), .int (nI mn), .ref arow, .ref abox, .ref awrd, .int (nI rd), .ref ablk, .ref amov, .int (nI za), .int (nI zb), .ref ahA, .ref ahB, .ref ahC, .ref anum, .ref amsg, .ref astr])), (ahA, .inl (cI, 64, .inl (gA ha))), (ahB, .inl (cI, 64, .inl (gA hb_))), (ahC, .inl (cI, 64, .inl (gA hc)))] sz)) 0 0 (va_A [(mo, .inr (7, [.int (nI th), .int (nI by_), .ref abuf, .int (nI ks), .ref akey, .int (nI ts), .ref atwk, .int (nI rx), .int (nI mn), .ref arow, .ref abox, .ref awrd, .int (nI rd), .ref ablk, .ref amov, .int (nI za), .int (nI zb), .ref ahA, .ref ahB, .ref ahC, .ref anum, .ref amsg, .ref astr])), (ahA, .inl (cI, 64, .inl (gA ha))), (ahB, .inl (cI, 64, .inl (gA hb_))), (ahC, .inl (cI, 64, .inl (gA hc)))] sz) := by
  refine Met.ofW (cc := cX8_change) (maxL := 4) (ret := none) (by decide) rfl ?_
  intro p e s m args below meth c s₁ B9 hml hv
  obtain ⟨rfl, hsz, ⟨hP, hK, hD0⟩⟩ := hv
  have hx := B9.exec
  have hb := B9.bytes
  have hr := B9.returns
  have hts := atoms_spec (ws := wsX8_change) B9.pre
  have hown : s.vm.findClass RX8 = some m.cls := findClass_of_methodNamed B9.named
  have hlocks := B9.notSynchronized
  subst hsz
  have hD := hD0.self (sz := s.heap.size)
  generalize hAe : va_A [(mo, .inr (7, [.int (nI th), .int (nI by_), .ref abuf, .int (nI ks), .ref akey, .int (nI ts), .ref atwk, .int (nI rx), .int (nI mn), .ref arow, .ref abox, .ref awrd, .int (nI rd), .ref ablk, .ref amov, .int (nI za), .int (nI zb), .ref ahA, .ref ahB, .ref ahC, .ref anum, .ref amsg, .ref astr])), (ahA, .inl (cI, 64, .inl (gA ha))), (ahB, .inl (cI, 64, .inl (gA hb_))), (ahC, .inl (cI, 64, .inl (gA hc)))] s.heap.size = A at hD ⊢
  have hA : ∀ q : Nat, s.heap.size ≤ q → A q := fun q h => by rw [← hAe]; exact Or.inr h
  have hS : va_S A s.heap s.heap [] := va_S.rf
  have hl := lv_entry ([.ref mo, .int (nI mm), .int (nI 0)]) (n := 4) (Nat.le_of_ble_eq_true rfl)
  rw [lg_entry_eq]
  generalize (lg_sl ([.ref mo, .int (nI mm), .int (nI 0)]) ++ List.replicate (4 - (lg_sl ([.ref mo, .int (nI mm), .int (nI 0)])).length) Slot.unset).toArray = ls at hl ⊢
  have hl : lv_has ls 4 [(0, .ref mo), (1, .int (nI mm)), (2, .int (nI 0))] := hl
  refine lv_iload_n hx hb dX8_change_0 rfl (lv_at hl 2 rfl) ?_
  refine gv_if_eq (tgt := 58) hx hb dX8_change_1 (by decide) (by omega) (fun c_1 => ?_) (fun c_1 => ?_)
  ·
    refine lv_aload_n hx hb dX8_change_58 rfl (lv_at hl 0 rfl) ?_
    refine lv_aload_n hx hb dX8_change_59 rfl (lv_at hl 0 rfl) ?_
    refine gv_get (own := RX8) (D := (dC, dI)) (ci := 7) (C := RX8) (T := TX8) (N := 23) (v := .int (nI zb)) hx hb hts (by decide +kernel) hown hK hP 0 rfl rfl 16 (by decide) (hts (.fieldLink RX8 92 "NumeralCipherModel" "sizeB" "I") (by decide +kernel)) rfl rfl dX8_change_60 ?_
    refine gv_put (own := RX8) (D := (dC, dI)) (ci := 7) (C := RX8) (T := TX8) (N := 23) (ws' := [(mo, .inr (7, [.int (nI th), .int (nI by_), .ref abuf, .int (nI ks), .ref akey, .int (nI ts), .ref atwk, .int (nI rx), .int (nI mn), .ref arow, .ref abox, .ref awrd, .int (nI rd), .ref ablk, .ref amov, .int (nI zb), .int (nI zb), .ref ahA, .ref ahB, .ref ahC, .ref anum, .ref amsg, .ref astr])), (ahA, .inl (cI, 64, .inl (gA ha))), (ahB, .inl (cI, 64, .inl (gA hb_))), (ahC, .inl (cI, 64, .inl (gA hc)))]) hx hb hts (by decide +kernel) tyX8 tyX8_ok nmX8 hown hK hP hD hS 0 rfl rfl 15 (by decide) (hts (.fieldLink RX8 86 "NumeralCipherModel" "sizeA" "I") (by decide +kernel)) rfl rfl (by decide +kernel) (Nat.le_of_ble_eq_true rfl) rfl dX8_change_63 (fun H locs hP hD hS => ?_)
    refine lv_iconst (v := nI 0) hx hb dX8_change_66 (by decide) ?_
    refine lv_istore_n (lv' := [(3, .int (nI 0)), (0, .ref mo), (1, .int (nI mm)), (2, .int (nI 0))]) hx hb dX8_change_67 rfl hl (by decide) rfl (fun ls hl => ?_)
    refine gw_lab (G := fun R args Q => ∀ (n9_68 : Nat) (i : Nat) (f : Nat → Nat) (g : Nat → Nat), n9_68 = 64 - i → (i ≤ 64) → (∀ q, q < 64 → f q = if q < i then hb_ q else ha q) → (∀ q, q < 64 → g q = if q < i then hc q else hb_ q) → ∀ (H : Heap) (locs : List Loc), va_P (dC, dI) vwCl [(mo, .inr (7, [.int (nI th), .int (nI by_), .ref abuf, .int (nI ks), .ref akey, .int (nI ts), .ref atwk, .int (nI rx), .int (nI mn), .ref arow, .ref abox, .ref awrd, .int (nI rd), .ref ablk, .ref amov, .int (nI zb), .int (nI zb), .ref ahA, .ref ahB, .ref ahC, .ref anum, .ref amsg, .ref astr])), (ahA, .inl (cI, 64, .inl (gA f))), (ahB, .inl (cI, 64, .inl (gA g))), (ahC, .inl (cI, 64, .inl (gA hc)))] H → va_D A [(mo, .inr (7, [.int (nI th), .int (nI by_), .ref abuf, .int (nI ks), .ref akey, .int (nI ts), .ref atwk, .int (nI rx), .int (nI mn), .ref arow, .ref abox, .ref awrd, .int (nI rd), .ref ablk, .ref amov, .int (nI zb), .int (nI zb), .ref ahA, .ref ahB, .ref ahC, .ref anum, .ref amsg, .ref astr])), (ahA, .inl (cI, 64, .inl (gA f))), (ahB, .inl (cI, 64, .inl (gA g))), (ahC, .inl (cI, 64, .inl (gA hc)))] → va_S A s.heap H locs → ∀ (ls : Array Slot), lv_has ls 4 [(3, .int (nI i)), (0, .ref mo), (1, .int (nI mm)), (2, .int (nI 0))] → W p l e R s m args below meth c H locs 0 0 Q (F0 m 68 ls [])) ?_ (fun L68 => ?_)
    ·
      intro n9_68
      induction n9_68 using Nat.strongRecOn with
      | ind n9_68 ih9_68 =>
        intro i f g hmu9_68 hi hf hg H locs hP hD hS ls hl
        refine lv_iload_n hx hb dX8_change_68 rfl (lv_at hl 0 rfl) ?_
        refine lv_bipush (v := nI 64) hx hb dX8_change_69 (by decide) ?_
        refine gv_icmp_ge (tgt := 104) hx hb dX8_change_71 (by decide) (by omega) (by omega) (fun c_71 => ?_) (fun c_71 => ?_)
        ·
          have e9 : i = 64 := by omega
          rw [e9] at hf hg
          have hf := fl_e hf
          have hg := fl_e hg
          refine lv_aload_n hx hb dX8_change_104 rfl (lv_at hl 1 rfl) ?_
          refine lv_iload_n hx hb dX8_change_105 rfl (lv_at hl 2 rfl) ?_
          refine gv_put (own := RX8) (D := (dC, dI)) (ci := 7) (C := RX8) (T := TX8) (N := 23) (ws' := [(mo, .inr (7, [.int (nI th), .int (nI by_), .ref abuf, .int (nI ks), .ref akey, .int (nI ts), .ref atwk, .int (nI rx), .int (nI mn), .ref arow, .ref abox, .ref awrd, .int (nI rd), .ref ablk, .ref amov, .int (nI zb), .int (nI mm), .ref ahA, .ref ahB, .ref ahC, .ref anum, .ref amsg, .ref astr])), (ahA, .inl (cI, 64, .inl (gA f))), (ahB, .inl (cI, 64, .inl (gA g))), (ahC, .inl (cI, 64, .inl (gA hc)))]) hx hb hts (by decide +kernel) tyX8 tyX8_ok nmX8 hown hK hP hD hS 0 rfl rfl 16 (by decide) (hts (.fieldLink RX8 92 "NumeralCipherModel" "sizeB" "I") (by decide +kernel)) rfl rfl (by decide +kernel) (Nat.le_of_ble_eq_true rfl) rfl dX8_change_106 (fun H locs hP hD hS => ?_)
          exact W.vret hx hb hr (fun t ht hW => ⟨⟨(f, g), rfl, ⟨hf, hg⟩, gB_end ht hW hP hK hD⟩, hS.F ht⟩) hS.2.2 dX8_change_109
        ·
          refine lv_aload_n hx hb dX8_change_74 rfl (lv_at hl 1 rfl) ?_
          refine gv_get (own := RX8) (D := (dC, dI)) (ci := 7) (C := RX8) (T := TX8) (N := 23) (v := .ref ahA) hx hb hts (by decide +kernel) hown hK hP 0 rfl rfl 17 (by decide) (hts (.fieldLink RX8 41 "NumeralCipherModel" "halfA" "[I") (by decide +kernel)) rfl rfl dX8_change_75 ?_
          refine lv_iload_n hx hb dX8_change_78 rfl (lv_at hl 0 rfl) ?_
          refine lv_aload_n hx hb dX8_change_79 rfl (lv_at hl 1 rfl) ?_
          refine gv_get (own := RX8) (D := (dC, dI)) (ci := 7) (C := RX8) (T := TX8) (N := 23) (v := .ref ahB) hx hb hts (by decide +kernel) hown hK hP 0 rfl rfl 18 (by decide) (hts (.fieldLink RX8 44 "NumeralCipherModel" "halfB" "[I") (by decide +kernel)) rfl rfl dX8_change_80 ?_
          refine lv_iload_n hx hb dX8_change_83 rfl (lv_at hl 0 rfl) ?_
          refine gv_iald hx hb hK hP 2 0 rfl rfl (by omega) (by omega) dX8_change_84 ?_
          refine gv_top (y := nI (hb_ i)) (congrArg nI (fl_hi hg c_71 (Nat.le_refl _))) ?_
          refine gv_iast (ws' := [(mo, .inr (7, [.int (nI th), .int (nI by_), .ref abuf, .int (nI ks), .ref akey, .int (nI ts), .ref atwk, .int (nI rx), .int (nI mn), .ref arow, .ref abox, .ref awrd, .int (nI rd), .ref ablk, .ref amov, .int (nI zb), .int (nI zb), .ref ahA, .ref ahB, .ref ahC, .ref anum, .ref amsg, .ref astr])), (ahA, .inl (cI, 64, .inl (gA (gU f i (hb_ i))))), (ahB, .inl (cI, 64, .inl (gA g))), (ahC, .inl (cI, 64, .inl (gA hc)))]) hx hb hK hP hD hS 1 0 rfl rfl rfl (by omega) (by omega) dX8_change_85 (fun H locs hP hD hS => ?_)
          refine lv_aload_n hx hb dX8_change_86 rfl (lv_at hl 1 rfl) ?_
          refine gv_get (own := RX8) (D := (dC, dI)) (ci := 7) (C := RX8) (T := TX8) (N := 23) (v := .ref ahB) hx hb hts (by decide +kernel) hown hK hP 0 rfl rfl 18 (by decide) (hts (.fieldLink RX8 44 "NumeralCipherModel" "halfB" "[I") (by decide +kernel)) rfl rfl dX8_change_87 ?_
          refine lv_iload_n hx hb dX8_change_90 rfl (lv_at hl 0 rfl) ?_
          refine lv_aload_n hx hb dX8_change_91 rfl (lv_at hl 1 rfl) ?_
          refine gv_get (own := RX8) (D := (dC, dI)) (ci := 7) (C := RX8) (T := TX8) (N := 23) (v := .ref ahC) hx hb hts (by decide +kernel) hown hK hP 0 rfl rfl 19 (by decide) (hts (.fieldLink RX8 47 "NumeralCipherModel" "halfC" "[I") (by decide +kernel)) rfl rfl dX8_change_92 ?_
          refine lv_iload_n hx hb dX8_change_95 rfl (lv_at hl 0 rfl) ?_
          refine gv_iald hx hb hK hP 3 0 rfl rfl (by omega) (by omega) dX8_change_96 ?_
          refine gv_iast (ws' := [(mo, .inr (7, [.int (nI th), .int (nI by_), .ref abuf, .int (nI ks), .ref akey, .int (nI ts), .ref atwk, .int (nI rx), .int (nI mn), .ref arow, .ref abox, .ref awrd, .int (nI rd), .ref ablk, .ref amov, .int (nI zb), .int (nI zb), .ref ahA, .ref ahB, .ref ahC, .ref anum, .ref amsg, .ref astr])), (ahA, .inl (cI, 64, .inl (gA (gU f i (hb_ i))))), (ahB, .inl (cI, 64, .inl (gA (gU g i (hc i))))), (ahC, .inl (cI, 64, .inl (gA hc)))]) hx hb hK hP hD hS 2 0 rfl rfl rfl (by omega) (by omega) dX8_change_97 (fun H locs hP hD hS => ?_)
          refine lv_iinc (v := nI (i + 1)) (lv' := [(3, .int (nI (i + 1))), (0, .ref mo), (1, .int (nI mm)), (2, .int (nI 0))]) hx hb dX8_change_98 hl (k := 0) rfl (gz_inc1 _) (by decide) rfl (fun ls hl => ?_)
          refine lv_goto (tgt := 68) hx hb dX8_change_101 (by decide) ?_
          exact ih9_68 _ (by omega) (i + 1) (gU f i (hb_ i)) (gU g i (hc i)) rfl (by omega) (fl_s hf rfl) (fl_s hg rfl) _ _ hP hD hS _ hl
    exact L68 _ 0 ha hb_ rfl (by omega) (fl_0 (fun _ _ => rfl)) (fl_0 (fun _ _ => rfl)) _ _ hP hD hS _ hl
  ·
    exact absurd rfl c_1

set_option maxHeartbeats 4000000 in
set_option maxRecDepth 100000 in
/-- change(m, 1) -/
theorem c_X8_change_1 (l : Launch) (dC : Nat → ClassId) (dI : Nat → Nat → Nat) (cI : ClassId) (sz : Nat) (mo : Nat) (abuf : Nat) (akey : Nat) (atwk : Nat) (arow : Nat) (abox : Nat) (awrd : Nat) (ablk : Nat) (amov : Nat) (ahA : Nat) (ahB : Nat) (ahC : Nat) (anum : Nat) (amsg : Nat) (astr : Nat) (th : Nat) (by_ : Nat) (ks : Nat) (ts : Nat) (rx : Nat) (mn : Nat) (rd : Nat) (za : Nat) (zb : Nat) (mm : Nat) (ha : Nat → Nat) (hb_ : Nat → Nat) (hc : Nat → Nat) : Met l yX8_change wsX8_change ({ frames := 0, cells := 0, slots := 0, locals := 0 }) (gPc dC dI cI [.ref mo, .int (nI mm), .int (nI 1)] [(mo, .inr (7, [.int (nI th), .int (nI by_), .ref abuf, .int (nI ks), .ref akey, .int (nI ts), .ref atwk, .int (nI rx), .int (nI mn), .ref arow, .ref abox, .ref awrd, .int (nI rd), .ref ablk, .ref amov, .int (nI za), .int (nI zb), .ref ahA, .ref ahB, .ref ahC, .ref anum, .ref amsg, .ref astr])), (ahA, .inl (cI, 64, .inl (gA ha))), (ahB, .inl (cI, 64, .inl (gA hb_))), (ahC, .inl (cI, 64, .inl (gA hc)))] sz) (va_Qv (fun u : (Nat → Nat) × (Nat → Nat) => (∀ q, q < 64 → u.1 q = hc q) ∧ (∀ q, q < 64 → u.2 q = ha q)) (fun u t => gB dC dI cI (va_A [(mo, .inr (7, [.int (nI th), .int (nI by_), .ref abuf, .int (nI ks), .ref akey, .int (nI ts), .ref atwk, .int (nI rx), .int (nI mn), .ref arow, .ref abox, .ref awrd, .int (nI rd), .ref ablk, .ref amov, .int (nI za), .int (nI zb), .ref ahA, .ref ahB, .ref ahC, .ref anum, .ref amsg, .ref astr])), (ahA, .inl (cI, 64, .inl (gA ha))), (ahB, .inl (cI, 64, .inl (gA hb_))), (ahC, .inl (cI, 64, .inl (gA hc)))] sz) [(mo, .inr (7, [.int (nI th), .int (nI by_), .ref abuf, .int (nI ks), .ref akey, .int (nI ts), .ref atwk, .int (nI rx), .int (nI mn), .ref arow, .ref abox, .ref awrd, .int (nI rd), .ref ablk, .ref amov, .int (nI mm), .int (nI za), .ref ahA, .ref ahB, .ref ahC, .ref anum, .ref amsg, .ref astr])), (ahA, .inl (cI, 64, .inl (gA u.1))), (ahB, .inl (cI, 64, .inl (gA u.2))), (ahC, .inl (cI, 64, .inl (gA hc)))] t) (va_A [(mo, .inr (7, [.int (nI th), .int (nI by_), .ref abuf, .int (nI ks), .ref akey, .int (nI ts), .ref atwk, .int (nI rx), .int (nI mn), .ref arow, .ref abox, .ref awrd, .int (nI rd), .ref ablk, .ref amov, .int (nI za), .int (nI zb), .ref ahA, .ref ahB, .ref ahC, .ref anum, .ref amsg, .ref astr])), (ahA, .inl (cI, 64, .inl (gA ha))), (ahB, .inl (cI, 64, .inl (gA hb_))), (ahC, .inl (cI, 64, .inl (gA hc)))] sz)) 0 0 (va_A [(mo, .inr (7, [.int (nI th), .int (nI by_), .ref abuf, .int (nI ks), .ref akey, .int (nI ts), .ref atwk, .int (nI rx), .int (nI mn), .ref arow, .ref abox, .ref awrd, .int (nI rd), .ref ablk, .ref amov, .int (nI za), .int (nI zb), .ref ahA, .ref ahB, .ref ahC, .ref anum, .ref amsg, .ref astr])), (ahA, .inl (cI, 64, .inl (gA ha))), (ahB, .inl (cI, 64, .inl (gA hb_))), (ahC, .inl (cI, 64, .inl (gA hc)))] sz) := by
  refine Met.ofW (cc := cX8_change) (maxL := 4) (ret := none) (by decide) rfl ?_
  intro p e s m args below meth c s₁ B9 hml hv
  obtain ⟨rfl, hsz, ⟨hP, hK, hD0⟩⟩ := hv
  have hx := B9.exec
  have hb := B9.bytes
  have hr := B9.returns
  have hts := atoms_spec (ws := wsX8_change) B9.pre
  have hown : s.vm.findClass RX8 = some m.cls := findClass_of_methodNamed B9.named
  have hlocks := B9.notSynchronized
  subst hsz
  have hD := hD0.self (sz := s.heap.size)
  generalize hAe : va_A [(mo, .inr (7, [.int (nI th), .int (nI by_), .ref abuf, .int (nI ks), .ref akey, .int (nI ts), .ref atwk, .int (nI rx), .int (nI mn), .ref arow, .ref abox, .ref awrd, .int (nI rd), .ref ablk, .ref amov, .int (nI za), .int (nI zb), .ref ahA, .ref ahB, .ref ahC, .ref anum, .ref amsg, .ref astr])), (ahA, .inl (cI, 64, .inl (gA ha))), (ahB, .inl (cI, 64, .inl (gA hb_))), (ahC, .inl (cI, 64, .inl (gA hc)))] s.heap.size = A at hD ⊢
  have hA : ∀ q : Nat, s.heap.size ≤ q → A q := fun q h => by rw [← hAe]; exact Or.inr h
  have hS : va_S A s.heap s.heap [] := va_S.rf
  have hl := lv_entry ([.ref mo, .int (nI mm), .int (nI 1)]) (n := 4) (Nat.le_of_ble_eq_true rfl)
  rw [lg_entry_eq]
  generalize (lg_sl ([.ref mo, .int (nI mm), .int (nI 1)]) ++ List.replicate (4 - (lg_sl ([.ref mo, .int (nI mm), .int (nI 1)])).length) Slot.unset).toArray = ls at hl ⊢
  have hl : lv_has ls 4 [(0, .ref mo), (1, .int (nI mm)), (2, .int (nI 1))] := hl
  refine lv_iload_n hx hb dX8_change_0 rfl (lv_at hl 2 rfl) ?_
  refine gv_if_eq (tgt := 58) hx hb dX8_change_1 (by decide) (by omega) (fun c_1 => ?_) (fun c_1 => ?_)
  ·
    exact absurd c_1 (by omega)
  ·
    refine lv_aload_n hx hb dX8_change_4 rfl (lv_at hl 0 rfl) ?_
    refine lv_aload_n hx hb dX8_change_5 rfl (lv_at hl 0 rfl) ?_
    refine gv_get (own := RX8) (D := (dC, dI)) (ci := 7) (C := RX8) (T := TX8) (N := 23) (v := .int (nI za)) hx hb hts (by decide +kernel) hown hK hP 0 rfl rfl 15 (by decide) (hts (.fieldLink RX8 86 "NumeralCipherModel" "sizeA" "I") (by decide +kernel)) rfl rfl dX8_change_6 ?_
    refine gv_put (own := RX8) (D := (dC, dI)) (ci := 7) (C := RX8) (T := TX8) (N := 23) (ws' := [(mo, .inr (7, [.int (nI th), .int (nI by_), .ref abuf, .int (nI ks), .ref akey, .int (nI ts), .ref atwk, .int (nI rx), .int (nI mn), .ref arow, .ref abox, .ref awrd, .int (nI rd), .ref ablk, .ref amov, .int (nI za), .int (nI za), .ref ahA, .ref ahB, .ref ahC, .ref anum, .ref amsg, .ref astr])), (ahA, .inl (cI, 64, .inl (gA ha))), (ahB, .inl (cI, 64, .inl (gA hb_))), (ahC, .inl (cI, 64, .inl (gA hc)))]) hx hb hts (by decide +kernel) tyX8 tyX8_ok nmX8 hown hK hP hD hS 0 rfl rfl 16 (by decide) (hts (.fieldLink RX8 92 "NumeralCipherModel" "sizeB" "I") (by decide +kernel)) rfl rfl (by decide +kernel) (Nat.le_of_ble_eq_true rfl) rfl dX8_change_9 (fun H locs hP hD hS => ?_)
    refine lv_iconst (v := nI 0) hx hb dX8_change_12 (by decide) ?_
    refine lv_istore_n (lv' := [(3, .int (nI 0)), (0, .ref mo), (1, .int (nI mm)), (2, .int (nI 1))]) hx hb dX8_change_13 rfl hl (by decide) rfl (fun ls hl => ?_)
    refine gw_lab (G := fun R args Q => ∀ (n9_14 : Nat) (i : Nat) (f : Nat → Nat) (g : Nat → Nat), n9_14 = 64 - i → (i ≤ 64) → (∀ q, q < 64 → f q = if q < i then hc q else ha q) → (∀ q, q < 64 → g q = if q < i then ha q else hb_ q) → ∀ (H : Heap) (locs : List Loc), va_P (dC, dI) vwCl [(mo, .inr (7, [.int (nI th), .int (nI by_), .ref abuf, .int (nI ks), .ref akey, .int (nI ts), .ref atwk, .int (nI rx), .int (nI mn), .ref arow, .ref abox, .ref awrd, .int (nI rd), .ref ablk, .ref amov, .int (nI za), .int (nI za), .ref ahA, .ref ahB, .ref ahC, .ref anum, .ref amsg, .ref astr])), (ahA, .inl (cI, 64, .inl (gA f))), (ahB, .inl (cI, 64, .inl (gA g))), (ahC, .inl (cI, 64, .inl (gA hc)))] H → va_D A [(mo, .inr (7, [.int (nI th), .int (nI by_), .ref abuf, .int (nI ks), .ref akey, .int (nI ts), .ref atwk, .int (nI rx), .int (nI mn), .ref arow, .ref abox, .ref awrd, .int (nI rd), .ref ablk, .ref amov, .int (nI za), .int (nI za), .ref ahA, .ref ahB, .ref ahC, .ref anum, .ref amsg, .ref astr])), (ahA, .inl (cI, 64, .inl (gA f))), (ahB, .inl (cI, 64, .inl (gA g))), (ahC, .inl (cI, 64, .inl (gA hc)))] → va_S A s.heap H locs → ∀ (ls : Array Slot), lv_has ls 4 [(3, .int (nI i)), (0, .ref mo), (1, .int (nI mm)), (2, .int (nI 1))] → W p l e R s m args below meth c H locs 0 0 Q (F0 m 14 ls [])) ?_ (fun L14 => ?_)
    ·
      intro n9_14
      induction n9_14 using Nat.strongRecOn with
      | ind n9_14 ih9_14 =>
        intro i f g hmu9_14 hi hf hg H locs hP hD hS ls hl
        refine lv_iload_n hx hb dX8_change_14 rfl (lv_at hl 0 rfl) ?_
        refine lv_bipush (v := nI 64) hx hb dX8_change_15 (by decide) ?_
        refine gv_icmp_ge (tgt := 50) hx hb dX8_change_17 (by decide) (by omega) (by omega) (fun c_17 => ?_) (fun c_17 => ?_)
        ·
          have e9 : i = 64 := by omega
          rw [e9] at hf hg
          have hf := fl_e hf
          have hg := fl_e hg
          refine lv_aload_n hx hb dX8_change_50 rfl (lv_at hl 1 rfl) ?_
          refine lv_iload_n hx hb dX8_change_51 rfl (lv_at hl 2 rfl) ?_
          refine gv_put (own := RX8) (D := (dC, dI)) (ci := 7) (C := RX8) (T := TX8) (N := 23) (ws' := [(mo, .inr (7, [.int (nI th), .int (nI by_), .ref abuf, .int (nI ks), .ref akey, .int (nI ts), .ref atwk, .int (nI rx), .int (nI mn), .ref arow, .ref abox, .ref awrd, .int (nI rd), .ref ablk, .ref amov, .int (nI mm), .int (nI za), .ref ahA, .ref ahB, .ref ahC, .ref anum, .ref amsg, .ref astr])), (ahA, .inl (cI, 64, .inl (gA f))), (ahB, .inl (cI, 64, .inl (gA g))), (ahC, .inl (cI, 64, .inl (gA hc)))]) hx hb hts (by decide +kernel) tyX8 tyX8_ok nmX8 hown hK hP hD hS 0 rfl rfl 15 (by decide) (hts (.fieldLink RX8 86 "NumeralCipherModel" "sizeA" "I") (by decide +kernel)) rfl rfl (by decide +kernel) (Nat.le_of_ble_eq_true rfl) rfl dX8_change_52 (fun H locs hP hD hS => ?_)
          refine lv_goto (tgt := 109) hx hb dX8_change_55 (by decide) ?_
          exact W.vret hx hb hr (fun t ht hW => ⟨⟨(f, g), rfl, ⟨hf, hg⟩, gB_end ht hW hP hK hD⟩, hS.F ht⟩) hS.2.2 dX8_change_109
        ·
          refine lv_aload_n hx hb dX8_change_20 rfl (lv_at hl 1 rfl) ?_
          refine gv_get (own := RX8) (D := (dC, dI)) (ci := 7) (C := RX8) (T := TX8) (N := 23) (v := .ref ahB) hx hb hts (by decide +kernel) hown hK hP 0 rfl rfl 18 (by decide) (hts (.fieldLink RX8 44 "NumeralCipherModel" "halfB" "[I") (by decide +kernel)) rfl rfl dX8_change_21 ?_
          refine lv_iload_n hx hb dX8_change_24 rfl (lv_at hl 0 rfl) ?_
          refine lv_aload_n hx hb dX8_change_25 rfl (lv_at hl 1 rfl) ?_
          refine gv_get (own := RX8) (D := (dC, dI)) (ci := 7) (C := RX8) (T := TX8) (N := 23) (v := .ref ahA) hx hb hts (by decide +kernel) hown hK hP 0 rfl rfl 17 (by decide) (hts (.fieldLink RX8 41 "NumeralCipherModel" "halfA" "[I") (by decide +kernel)) rfl rfl dX8_change_26 ?_
          refine lv_iload_n hx hb dX8_change_29 rfl (lv_at hl 0 rfl) ?_
          refine gv_iald hx hb hK hP 1 0 rfl rfl (by omega) (by omega) dX8_change_30 ?_
          refine gv_top (y := nI (ha i)) (congrArg nI (fl_hi hf c_17 (Nat.le_refl _))) ?_
          refine gv_iast (ws' := [(mo, .inr (7, [.int (nI th), .int (nI by_), .ref abuf, .int (nI ks), .ref akey, .int (nI ts), .ref atwk, .int (nI rx), .int (nI mn), .ref arow, .ref abox, .ref awrd, .int (nI rd), .ref ablk, .ref amov, .int (nI za), .int (nI za), .ref ahA, .ref ahB, .ref ahC, .ref anum, .ref amsg, .ref astr])), (ahA, .inl (cI, 64, .inl (gA f))), (ahB, .inl (cI, 64, .inl (gA (gU g i (ha i))))), (ahC, .inl (cI, 64, .inl (gA hc)))]) hx hb hK hP hD hS 2 0 rfl rfl rfl (by omega) (by omega) dX8_change_31 (fun H locs hP hD hS => ?_)
          refine lv_aload_n hx hb dX8_change_32 rfl (lv_at hl 1 rfl) ?_
          refine gv_get (own := RX8) (D := (dC, dI)) (ci := 7) (C := RX8) (T := TX8) (N := 23) (v := .ref ahA) hx hb hts (by decide +kernel) hown hK hP 0 rfl rfl 17 (by decide) (hts (.fieldLink RX8 41 "NumeralCipherModel" "halfA" "[I") (by decide +kernel)) rfl rfl dX8_change_33 ?_
          refine lv_iload_n hx hb dX8_change_36 rfl (lv_at hl 0 rfl) ?_
          refine lv_aload_n hx hb dX8_change_37 rfl (lv_at hl 1 rfl) ?_
          refine gv_get (own := RX8) (D := (dC, dI)) (ci := 7) (C := RX8) (T := TX8) (N := 23) (v := .ref ahC) hx hb hts (by decide +kernel) hown hK hP 0 rfl rfl 19 (by decide) (hts (.fieldLink RX8 47 "NumeralCipherModel" "halfC" "[I") (by decide +kernel)) rfl rfl dX8_change_38 ?_
          refine lv_iload_n hx hb dX8_change_41 rfl (lv_at hl 0 rfl) ?_
          refine gv_iald hx hb hK hP 3 0 rfl rfl (by omega) (by omega) dX8_change_42 ?_
          refine gv_iast (ws' := [(mo, .inr (7, [.int (nI th), .int (nI by_), .ref abuf, .int (nI ks), .ref akey, .int (nI ts), .ref atwk, .int (nI rx), .int (nI mn), .ref arow, .ref abox, .ref awrd, .int (nI rd), .ref ablk, .ref amov, .int (nI za), .int (nI za), .ref ahA, .ref ahB, .ref ahC, .ref anum, .ref amsg, .ref astr])), (ahA, .inl (cI, 64, .inl (gA (gU f i (hc i))))), (ahB, .inl (cI, 64, .inl (gA (gU g i (ha i))))), (ahC, .inl (cI, 64, .inl (gA hc)))]) hx hb hK hP hD hS 1 0 rfl rfl rfl (by omega) (by omega) dX8_change_43 (fun H locs hP hD hS => ?_)
          refine lv_iinc (v := nI (i + 1)) (lv' := [(3, .int (nI (i + 1))), (0, .ref mo), (1, .int (nI mm)), (2, .int (nI 1))]) hx hb dX8_change_44 hl (k := 0) rfl (gz_inc1 _) (by decide) rfl (fun ls hl => ?_)
          refine lv_goto (tgt := 14) hx hb dX8_change_47 (by decide) ?_
          exact ih9_14 _ (by omega) (i + 1) (gU f i (hc i)) (gU g i (ha i)) rfl (by omega) (fl_s hf rfl) (fl_s hg rfl) _ _ hP hD hS _ hl
    exact L14 _ 0 ha hb_ rfl (by omega) (fl_0 (fun _ _ => rfl)) (fl_0 (fun _ _ => rfl)) _ _ hP hD hS _ hl

set_option maxHeartbeats 4000000 in
set_option maxRecDepth 100000 in
/-- join() -/
theorem c_X8_join (l : Launch) (dC : Nat → ClassId) (dI : Nat → Nat → Nat) (cI : ClassId) (sz : Nat) (mo : Nat) (abuf : Nat) (akey : Nat) (atwk : Nat) (arow : Nat) (abox : Nat) (awrd : Nat) (ablk : Nat) (amov : Nat) (ahA : Nat) (ahB : Nat) (ahC : Nat) (anum : Nat) (amsg : Nat) (astr : Nat) (th : Nat) (by_ : Nat) (ks : Nat) (ts : Nat) (rx : Nat) (mn : Nat) (rd : Nat) (za : Nat) (zb : Nat) (ro : Nat → Nat) (ha : Nat → Nat) (hb_ : Nat → Nat) (hm : mn ≤ 64) (hza : za ≤ mn) : Met l yX8_join wsX8_join ({ frames := 0, cells := 0, slots := 0, locals := 0 }) (gPc dC dI cI [.ref mo] [(mo, .inr (7, [.int (nI th), .int (nI by_), .ref abuf, .int (nI ks), .ref akey, .int (nI ts), .ref atwk, .int (nI rx), .int (nI mn), .ref arow, .ref abox, .ref awrd, .int (nI rd), .ref ablk, .ref amov, .int (nI za), .int (nI zb), .ref ahA, .ref ahB, .ref ahC, .ref anum, .ref amsg, .ref astr])), (arow, .inl (cI, 64, .inl (gA ro))), (ahA, .inl (cI, 64, .inl (gA ha))), (ahB, .inl (cI, 64, .inl (gA hb_)))] sz) (va_Qv (fun u : (Nat → Nat) => (∀ q, q < 64 → u q = if q < mn then (if q < za then ha q else hb_ (q - za)) else ro q)) (fun u t => gB dC dI cI (va_A [(mo, .inr (7, [.int (nI th), .int (nI by_), .ref abuf, .int (nI ks), .ref akey, .int (nI ts), .ref atwk, .int (nI rx), .int (nI mn), .ref arow, .ref abox, .ref awrd, .int (nI rd), .ref ablk, .ref amov, .int (nI za), .int (nI zb), .ref ahA, .ref ahB, .ref ahC, .ref anum, .ref amsg, .ref astr])), (arow, .inl (cI, 64, .inl (gA ro))), (ahA, .inl (cI, 64, .inl (gA ha))), (ahB, .inl (cI, 64, .inl (gA hb_)))] sz) [(mo, .inr (7, [.int (nI th), .int (nI by_), .ref abuf, .int (nI ks), .ref akey, .int (nI ts), .ref atwk, .int (nI rx), .int (nI mn), .ref arow, .ref abox, .ref awrd, .int (nI rd), .ref ablk, .ref amov, .int (nI za), .int (nI zb), .ref ahA, .ref ahB, .ref ahC, .ref anum, .ref amsg, .ref astr])), (arow, .inl (cI, 64, .inl (gA u))), (ahA, .inl (cI, 64, .inl (gA ha))), (ahB, .inl (cI, 64, .inl (gA hb_)))] t) (va_A [(mo, .inr (7, [.int (nI th), .int (nI by_), .ref abuf, .int (nI ks), .ref akey, .int (nI ts), .ref atwk, .int (nI rx), .int (nI mn), .ref arow, .ref abox, .ref awrd, .int (nI rd), .ref ablk, .ref amov, .int (nI za), .int (nI zb), .ref ahA, .ref ahB, .ref ahC, .ref anum, .ref amsg, .ref astr])), (arow, .inl (cI, 64, .inl (gA ro))), (ahA, .inl (cI, 64, .inl (gA ha))), (ahB, .inl (cI, 64, .inl (gA hb_)))] sz)) 0 0 (va_A [(mo, .inr (7, [.int (nI th), .int (nI by_), .ref abuf, .int (nI ks), .ref akey, .int (nI ts), .ref atwk, .int (nI rx), .int (nI mn), .ref arow, .ref abox, .ref awrd, .int (nI rd), .ref ablk, .ref amov, .int (nI za), .int (nI zb), .ref ahA, .ref ahB, .ref ahC, .ref anum, .ref amsg, .ref astr])), (arow, .inl (cI, 64, .inl (gA ro))), (ahA, .inl (cI, 64, .inl (gA ha))), (ahB, .inl (cI, 64, .inl (gA hb_)))] sz) := by
  refine Met.ofW (cc := cX8_join) (maxL := 2) (ret := none) (by decide) rfl ?_
  intro p e s m args below meth c s₁ B9 hml hv
  obtain ⟨rfl, hsz, ⟨hP, hK, hD0⟩⟩ := hv
  have hx := B9.exec
  have hb := B9.bytes
  have hr := B9.returns
  have hts := atoms_spec (ws := wsX8_join) B9.pre
  have hown : s.vm.findClass RX8 = some m.cls := findClass_of_methodNamed B9.named
  have hlocks := B9.notSynchronized
  subst hsz
  have hD := hD0.self (sz := s.heap.size)
  generalize hAe : va_A [(mo, .inr (7, [.int (nI th), .int (nI by_), .ref abuf, .int (nI ks), .ref akey, .int (nI ts), .ref atwk, .int (nI rx), .int (nI mn), .ref arow, .ref abox, .ref awrd, .int (nI rd), .ref ablk, .ref amov, .int (nI za), .int (nI zb), .ref ahA, .ref ahB, .ref ahC, .ref anum, .ref amsg, .ref astr])), (arow, .inl (cI, 64, .inl (gA ro))), (ahA, .inl (cI, 64, .inl (gA ha))), (ahB, .inl (cI, 64, .inl (gA hb_)))] s.heap.size = A at hD ⊢
  have hA : ∀ q : Nat, s.heap.size ≤ q → A q := fun q h => by rw [← hAe]; exact Or.inr h
  have hS : va_S A s.heap s.heap [] := va_S.rf
  have hl := lv_entry ([.ref mo]) (n := 2) (Nat.le_of_ble_eq_true rfl)
  rw [lg_entry_eq]
  generalize (lg_sl ([.ref mo]) ++ List.replicate (2 - (lg_sl ([.ref mo])).length) Slot.unset).toArray = ls at hl ⊢
  have hl : lv_has ls 2 [(0, .ref mo)] := hl
  refine lv_iconst (v := nI 0) hx hb dX8_join_0 (by decide) ?_
  refine lv_istore_n (lv' := [(1, .int (nI 0)), (0, .ref mo)]) hx hb dX8_join_1 rfl hl (by decide) rfl (fun ls hl => ?_)
  refine gw_lab (G := fun R args Q => ∀ (n9_2 : Nat) (i : Nat) (f : Nat → Nat), n9_2 = mn - i → (i ≤ mn) → (∀ q, q < 64 → f q = if q < i then (if q < za then ha q else hb_ (q - za)) else ro q) → ∀ (H : Heap) (locs : List Loc), va_P (dC, dI) vwCl [(mo, .inr (7, [.int (nI th), .int (nI by_), .ref abuf, .int (nI ks), .ref akey, .int (nI ts), .ref atwk, .int (nI rx), .int (nI mn), .ref arow, .ref abox, .ref awrd, .int (nI rd), .ref ablk, .ref amov, .int (nI za), .int (nI zb), .ref ahA, .ref ahB, .ref ahC, .ref anum, .ref amsg, .ref astr])), (arow, .inl (cI, 64, .inl (gA f))), (ahA, .inl (cI, 64, .inl (gA ha))), (ahB, .inl (cI, 64, .inl (gA hb_)))] H → va_D A [(mo, .inr (7, [.int (nI th), .int (nI by_), .ref abuf, .int (nI ks), .ref akey, .int (nI ts), .ref atwk, .int (nI rx), .int (nI mn), .ref arow, .ref abox, .ref awrd, .int (nI rd), .ref ablk, .ref amov, .int (nI za), .int (nI zb), .ref ahA, .ref ahB, .ref ahC, .ref anum, .ref amsg, .ref astr])), (arow, .inl (cI, 64, .inl (gA f))), (ahA, .inl (cI, 64, .inl (gA ha))), (ahB, .inl (cI, 64, .inl (gA hb_)))] → va_S A s.heap H locs → ∀ (ls : Array Slot), lv_has ls 2 [(1, .int (nI i)), (0, .ref mo)] → W p l e R s m args below meth c H locs 0 0 Q (F0 m 2 ls [])) ?_ (fun L2 => ?_)
  ·
    intro n9_2
    induction n9_2 using Nat.strongRecOn with
    | ind n9_2 ih9_2 =>
      intro i f hmu9_2 hi hf H locs hP hD hS ls hl
      refine lv_iload_n hx hb dX8_join_2 rfl (lv_at hl 0 rfl) ?_
      refine lv_aload_n hx hb dX8_join_3 rfl (lv_at hl 1 rfl) ?_
      refine gv_get (own := RX8) (D := (dC, dI)) (ci := 7) (C := RX8) (T := TX8) (N := 23) (v := .int (nI mn)) hx hb hts (by decide +kernel) hown hK hP 0 rfl rfl 8 (by decide) (hts (.fieldLink RX8 89 "NumeralCipherModel" "many" "I") (by decide +kernel)) rfl rfl dX8_join_4 ?_
      refine gv_icmp_ge (tgt := 50) hx hb dX8_join_7 (by decide) (by omega) (by omega) (fun c_7 => ?_) (fun c_7 => ?_)
      ·
        have e9 : i = mn := by omega
        rw [e9] at hf
        exact W.vret hx hb hr (fun t ht hW => ⟨⟨(f), rfl, hf, gB_end ht hW hP hK hD⟩, hS.F ht⟩) hS.2.2 dX8_join_50
      ·
        refine lv_aload_n hx hb dX8_join_10 rfl (lv_at hl 1 rfl) ?_
        refine gv_get (own := RX8) (D := (dC, dI)) (ci := 7) (C := RX8) (T := TX8) (N := 23) (v := .ref arow) hx hb hts (by decide +kernel) hown hK hP 0 rfl rfl 9 (by decide) (hts (.fieldLink RX8 26 "NumeralCipherModel" "row" "[I") (by decide +kernel)) rfl rfl dX8_join_11 ?_
        refine gw_lab (G := fun R args Q =>  ∀ (H : Heap) (locs : List Loc), va_P (dC, dI) vwCl [(mo, .inr (7, [.int (nI th), .int (nI by_), .ref abuf, .int (nI ks), .ref akey, .int (nI ts), .ref atwk, .int (nI rx), .int (nI mn), .ref arow, .ref abox, .ref awrd, .int (nI rd), .ref ablk, .ref amov, .int (nI za), .int (nI zb), .ref ahA, .ref ahB, .ref ahC, .ref anum, .ref amsg, .ref astr])), (arow, .inl (cI, 64, .inl (gA f))), (ahA, .inl (cI, 64, .inl (gA ha))), (ahB, .inl (cI, 64, .inl (gA hb_)))] H → va_D A [(mo, .inr (7, [.int (nI th), .int (nI by_), .ref abuf, .int (nI ks), .ref akey, .int (nI ts), .ref atwk, .int (nI rx), .int (nI mn), .ref arow, .ref abox, .ref awrd, .int (nI rd), .ref ablk, .ref amov, .int (nI za), .int (nI zb), .ref ahA, .ref ahB, .ref ahC, .ref anum, .ref amsg, .ref astr])), (arow, .inl (cI, 64, .inl (gA f))), (ahA, .inl (cI, 64, .inl (gA ha))), (ahB, .inl (cI, 64, .inl (gA hb_)))] → va_S A s.heap H locs → ∀ (ls : Array Slot), lv_has ls 2 [(1, .int (nI i)), (0, .ref mo)] → W p l e R s m args below meth c H locs 0 0 Q (F0 m 43 ls [.int (nI (if i < za then ha i else hb_ (i - za))), .int (nI i), .ref arow])) ?_ (fun L43 => ?_)
        ·
          intro  H locs hP hD hS ls hl
          refine gv_iast (ws' := [(mo, .inr (7, [.int (nI th), .int (nI by_), .ref abuf, .int (nI ks), .ref akey, .int (nI ts), .ref atwk, .int (nI rx), .int (nI mn), .ref arow, .ref abox, .ref awrd, .int (nI rd), .ref ablk, .ref amov, .int (nI za), .int (nI zb), .ref ahA, .ref ahB, .ref ahC, .ref anum, .ref amsg, .ref astr])), (arow, .inl (cI, 64, .inl (gA (gU f i (if i < za then ha i else hb_ (i - za)))))), (ahA, .inl (cI, 64, .inl (gA ha))), (ahB, .inl (cI, 64, .inl (gA hb_)))]) hx hb hK hP hD hS 1 0 rfl rfl rfl (by omega) (by omega) dX8_join_43 (fun H locs hP hD hS => ?_)
          refine lv_iinc (v := nI (i + 1)) (lv' := [(1, .int (nI (i + 1))), (0, .ref mo)]) hx hb dX8_join_44 hl (k := 0) rfl (gz_inc1 _) (by decide) rfl (fun ls hl => ?_)
          refine lv_goto (tgt := 2) hx hb dX8_join_47 (by decide) ?_
          exact ih9_2 _ (by omega) (i + 1) (gU f i (if i < za then ha i else hb_ (i - za))) rfl (by omega) (fl_s hf rfl) _ _ hP hD hS _ hl
        refine lv_iload_n hx hb dX8_join_14 rfl (lv_at hl 0 rfl) ?_
        refine lv_iload_n hx hb dX8_join_15 rfl (lv_at hl 0 rfl) ?_
        refine lv_aload_n hx hb dX8_join_16 rfl (lv_at hl 1 rfl) ?_
        refine gv_get (own := RX8) (D := (dC, dI)) (ci := 7) (C := RX8) (T := TX8) (N := 23) (v := .int (nI za)) hx hb hts (by decide +kernel) hown hK hP 0 rfl rfl 15 (by decide) (hts (.fieldLink RX8 86 "NumeralCipherModel" "sizeA" "I") (by decide +kernel)) rfl rfl dX8_join_17 ?_
        refine gv_icmp_ge (tgt := 32) hx hb dX8_join_20 (by decide) (by omega) (by omega) (fun c_20 => ?_) (fun c_20 => ?_)
        ·
          refine lv_aload_n hx hb dX8_join_32 rfl (lv_at hl 1 rfl) ?_
          refine gv_get (own := RX8) (D := (dC, dI)) (ci := 7) (C := RX8) (T := TX8) (N := 23) (v := .ref ahB) hx hb hts (by decide +kernel) hown hK hP 0 rfl rfl 18 (by decide) (hts (.fieldLink RX8 44 "NumeralCipherModel" "halfB" "[I") (by decide +kernel)) rfl rfl dX8_join_33 ?_
          refine lv_iload_n hx hb dX8_join_36 rfl (lv_at hl 0 rfl) ?_
          refine lv_aload_n hx hb dX8_join_37 rfl (lv_at hl 1 rfl) ?_
          refine gv_get (own := RX8) (D := (dC, dI)) (ci := 7) (C := RX8) (T := TX8) (N := 23) (v := .int (nI za)) hx hb hts (by decide +kernel) hown hK hP 0 rfl rfl 15 (by decide) (hts (.fieldLink RX8 86 "NumeralCipherModel" "sizeA" "I") (by decide +kernel)) rfl rfl dX8_join_38 ?_
          refine gv_isub (r := i - za) hx hb dX8_join_41 (by omega) ?_
          refine gv_iald hx hb hK hP 3 0 rfl rfl (by omega) (by omega) dX8_join_42 ?_
          refine gv_top (y := nI (if i < za then ha i else hb_ (i - za))) (congrArg nI (if_neg (Nat.not_lt.mpr c_20)).symm) ?_
          exact L43   _ _ hP hD hS _ hl
        ·
          refine lv_aload_n hx hb dX8_join_23 rfl (lv_at hl 1 rfl) ?_
          refine gv_get (own := RX8) (D := (dC, dI)) (ci := 7) (C := RX8) (T := TX8) (N := 23) (v := .ref ahA) hx hb hts (by decide +kernel) hown hK hP 0 rfl rfl 17 (by decide) (hts (.fieldLink RX8 41 "NumeralCipherModel" "halfA" "[I") (by decide +kernel)) rfl rfl dX8_join_24 ?_
          refine lv_iload_n hx hb dX8_join_27 rfl (lv_at hl 0 rfl) ?_
          refine gv_iald hx hb hK hP 2 0 rfl rfl (by omega) (by omega) dX8_join_28 ?_
          refine gv_top (y := nI (if i < za then ha i else hb_ (i - za))) (congrArg nI (if_pos c_20).symm) ?_
          refine lv_goto (tgt := 43) hx hb dX8_join_29 (by decide) ?_
          exact L43   _ _ hP hD hS _ hl
  exact L2 _ 0 ro rfl (by omega) (fl_0 (fun _ _ => rfl)) _ _ hP hD hS _ hl

set_option maxHeartbeats 4000000 in
set_option maxRecDepth 100000 in
/-- first(u) -/
theorem c_X8_first (l : Launch) (dC : Nat → ClassId) (dI : Nat → Nat → Nat) (cI : ClassId) (sz : Nat) (mo : Nat) (abuf : Nat) (akey : Nat) (atwk : Nat) (arow : Nat) (abox : Nat) (awrd : Nat) (ablk : Nat) (amov : Nat) (ahA : Nat) (ahB : Nat) (ahC : Nat) (anum : Nat) (amsg : Nat) (astr : Nat) (th : Nat) (by_ : Nat) (ks : Nat) (ts : Nat) (rx : Nat) (mn : Nat) (rd : Nat) (za : Nat) (zb : Nat) (uu : Nat) (b0 : Nat → Nat) (hr2 : rx ≤ 65536) : Met l yX8_first wsX8_first ({ frames := 0, cells := 0, slots := 0, locals := 0 }) (gPc dC dI cI [.ref mo, .int (nI uu)] [(mo, .inr (7, [.int (nI th), .int (nI by_), .ref abuf, .int (nI ks), .ref akey, .int (nI ts), .ref atwk, .int (nI rx), .int (nI mn), .ref arow, .ref abox, .ref awrd, .int (nI rd), .ref ablk, .ref amov, .int (nI za), .int (nI zb), .ref ahA, .ref ahB, .ref ahC, .ref anum, .ref amsg, .ref astr])), (ablk, .inl (cI, 16, .inl (gA b0)))] sz) (va_Qv (fun u : (Nat → Nat) => (∀ q, q < 16 → u q = fstB rx uu mn ts q)) (fun u t => gB dC dI cI (va_A [(mo, .inr (7, [.int (nI th), .int (nI by_), .ref abuf, .int (nI ks), .ref akey, .int (nI ts), .ref atwk, .int (nI rx), .int (nI mn), .ref arow, .ref abox, .ref awrd, .int (nI rd), .ref ablk, .ref amov, .int (nI za), .int (nI zb), .ref ahA, .ref ahB, .ref ahC, .ref anum, .ref amsg, .ref astr])), (ablk, .inl (cI, 16, .inl (gA b0)))] sz) [(mo, .inr (7, [.int (nI th), .int (nI by_), .ref abuf, .int (nI ks), .ref akey, .int (nI ts), .ref atwk, .int (nI rx), .int (nI mn), .ref arow, .ref abox, .ref awrd, .int (nI rd), .ref ablk, .ref amov, .int (nI za), .int (nI zb), .ref ahA, .ref ahB, .ref ahC, .ref anum, .ref amsg, .ref astr])), (ablk, .inl (cI, 16, .inl (gA u)))] t) (va_A [(mo, .inr (7, [.int (nI th), .int (nI by_), .ref abuf, .int (nI ks), .ref akey, .int (nI ts), .ref atwk, .int (nI rx), .int (nI mn), .ref arow, .ref abox, .ref awrd, .int (nI rd), .ref ablk, .ref amov, .int (nI za), .int (nI zb), .ref ahA, .ref ahB, .ref ahC, .ref anum, .ref amsg, .ref astr])), (ablk, .inl (cI, 16, .inl (gA b0)))] sz)) 0 0 (va_A [(mo, .inr (7, [.int (nI th), .int (nI by_), .ref abuf, .int (nI ks), .ref akey, .int (nI ts), .ref atwk, .int (nI rx), .int (nI mn), .ref arow, .ref abox, .ref awrd, .int (nI rd), .ref ablk, .ref amov, .int (nI za), .int (nI zb), .ref ahA, .ref ahB, .ref ahC, .ref anum, .ref amsg, .ref astr])), (ablk, .inl (cI, 16, .inl (gA b0)))] sz) := by
  refine Met.ofW (cc := cX8_first) (maxL := 3) (ret := none) (by decide) rfl ?_
  intro p e s m args below meth c s₁ B9 hml hv
  obtain ⟨rfl, hsz, ⟨hP, hK, hD0⟩⟩ := hv
  have hx := B9.exec
  have hb := B9.bytes
  have hr := B9.returns
  have hts := atoms_spec (ws := wsX8_first) B9.pre
  have hown : s.vm.findClass RX8 = some m.cls := findClass_of_methodNamed B9.named
  have hlocks := B9.notSynchronized
  subst hsz
  have hD := hD0.self (sz := s.heap.size)
  generalize hAe : va_A [(mo, .inr (7, [.int (nI th), .int (nI by_), .ref abuf, .int (nI ks), .ref akey, .int (nI ts), .ref atwk, .int (nI rx), .int (nI mn), .ref arow, .ref abox, .ref awrd, .int (nI rd), .ref ablk, .ref amov, .int (nI za), .int (nI zb), .ref ahA, .ref ahB, .ref ahC, .ref anum, .ref amsg, .ref astr])), (ablk, .inl (cI, 16, .inl (gA b0)))] s.heap.size = A at hD ⊢
  have hA : ∀ q : Nat, s.heap.size ≤ q → A q := fun q h => by rw [← hAe]; exact Or.inr h
  have hS : va_S A s.heap s.heap [] := va_S.rf
  have hl := lv_entry ([.ref mo, .int (nI uu)]) (n := 3) (Nat.le_of_ble_eq_true rfl)
  rw [lg_entry_eq]
  generalize (lg_sl ([.ref mo, .int (nI uu)]) ++ List.replicate (3 - (lg_sl ([.ref mo, .int (nI uu)])).length) Slot.unset).toArray = ls at hl ⊢
  have hl : lv_has ls 3 [(0, .ref mo), (1, .int (nI uu))] := hl
  refine lv_aload_n hx hb dX8_first_0 rfl (lv_at hl 0 rfl) ?_
  refine gv_get (own := RX8) (D := (dC, dI)) (ci := 7) (C := RX8) (T := TX8) (N := 23) (v := .ref ablk) hx hb hts (by decide +kernel) hown hK hP 0 rfl rfl 13 (by decide) (hts (.fieldLink RX8 35 "NumeralCipherModel" "block" "[I") (by decide +kernel)) rfl rfl dX8_first_1 ?_
  refine lv_iconst (v := nI 0) hx hb dX8_first_4 (by decide) ?_
  refine lv_iconst (v := nI 1) hx hb dX8_first_5 (by decide) ?_
  refine gv_iast (ws' := [(mo, .inr (7, [.int (nI th), .int (nI by_), .ref abuf, .int (nI ks), .ref akey, .int (nI ts), .ref atwk, .int (nI rx), .int (nI mn), .ref arow, .ref abox, .ref awrd, .int (nI rd), .ref ablk, .ref amov, .int (nI za), .int (nI zb), .ref ahA, .ref ahB, .ref ahC, .ref anum, .ref amsg, .ref astr])), (ablk, .inl (cI, 16, .inl (gA (gU b0 0 1))))]) hx hb hK hP hD hS 1 0 rfl rfl rfl (by omega) (by omega) dX8_first_6 (fun H locs hP hD hS => ?_)
  refine lv_aload_n hx hb dX8_first_7 rfl (lv_at hl 0 rfl) ?_
  refine gv_get (own := RX8) (D := (dC, dI)) (ci := 7) (C := RX8) (T := TX8) (N := 23) (v := .ref ablk) hx hb hts (by decide +kernel) hown hK hP 0 rfl rfl 13 (by decide) (hts (.fieldLink RX8 35 "NumeralCipherModel" "block" "[I") (by decide +kernel)) rfl rfl dX8_first_8 ?_
  refine lv_iconst (v := nI 1) hx hb dX8_first_11 (by decide) ?_
  refine lv_iconst (v := nI 2) hx hb dX8_first_12 (by decide) ?_
  refine gv_iast (ws' := [(mo, .inr (7, [.int (nI th), .int (nI by_), .ref abuf, .int (nI ks), .ref akey, .int (nI ts), .ref atwk, .int (nI rx), .int (nI mn), .ref arow, .ref abox, .ref awrd, .int (nI rd), .ref ablk, .ref amov, .int (nI za), .int (nI zb), .ref ahA, .ref ahB, .ref ahC, .ref anum, .ref amsg, .ref astr])), (ablk, .inl (cI, 16, .inl (gA (gU (gU b0 0 1) 1 2))))]) hx hb hK hP hD hS 1 0 rfl rfl rfl (by omega) (by omega) dX8_first_13 (fun H locs hP hD hS => ?_)
  refine lv_aload_n hx hb dX8_first_14 rfl (lv_at hl 0 rfl) ?_
  refine gv_get (own := RX8) (D := (dC, dI)) (ci := 7) (C := RX8) (T := TX8) (N := 23) (v := .ref ablk) hx hb hts (by decide +kernel) hown hK hP 0 rfl rfl 13 (by decide) (hts (.fieldLink RX8 35 "NumeralCipherModel" "block" "[I") (by decide +kernel)) rfl rfl dX8_first_15 ?_
  refine lv_iconst (v := nI 2) hx hb dX8_first_18 (by decide) ?_
  refine lv_iconst (v := nI 1) hx hb dX8_first_19 (by decide) ?_
  refine gv_iast (ws' := [(mo, .inr (7, [.int (nI th), .int (nI by_), .ref abuf, .int (nI ks), .ref akey, .int (nI ts), .ref atwk, .int (nI rx), .int (nI mn), .ref arow, .ref abox, .ref awrd, .int (nI rd), .ref ablk, .ref amov, .int (nI za), .int (nI zb), .ref ahA, .ref ahB, .ref ahC, .ref anum, .ref amsg, .ref astr])), (ablk, .inl (cI, 16, .inl (gA (gU (gU (gU b0 0 1) 1 2) 2 1))))]) hx hb hK hP hD hS 1 0 rfl rfl rfl (by omega) (by omega) dX8_first_20 (fun H locs hP hD hS => ?_)
  refine lv_aload_n hx hb dX8_first_21 rfl (lv_at hl 0 rfl) ?_
  refine gv_get (own := RX8) (D := (dC, dI)) (ci := 7) (C := RX8) (T := TX8) (N := 23) (v := .ref ablk) hx hb hts (by decide +kernel) hown hK hP 0 rfl rfl 13 (by decide) (hts (.fieldLink RX8 35 "NumeralCipherModel" "block" "[I") (by decide +kernel)) rfl rfl dX8_first_22 ?_
  refine lv_iconst (v := nI 3) hx hb dX8_first_25 (by decide) ?_
  refine lv_aload_n hx hb dX8_first_26 rfl (lv_at hl 0 rfl) ?_
  refine gv_get (own := RX8) (D := (dC, dI)) (ci := 7) (C := RX8) (T := TX8) (N := 23) (v := .int (nI rx)) hx hb hts (by decide +kernel) hown hK hP 0 rfl rfl 7 (by decide) (hts (.fieldLink RX8 23 "NumeralCipherModel" "radix" "I") (by decide +kernel)) rfl rfl dX8_first_27 ?_
  refine lv_bipush (v := nI 16) hx hb dX8_first_30 (by decide) ?_
  refine gv_ishr (r := rx / 65536) hx hb dX8_first_32 (by omega) (by omega) rfl ?_
  refine gv_iast (ws' := [(mo, .inr (7, [.int (nI th), .int (nI by_), .ref abuf, .int (nI ks), .ref akey, .int (nI ts), .ref atwk, .int (nI rx), .int (nI mn), .ref arow, .ref abox, .ref awrd, .int (nI rd), .ref ablk, .ref amov, .int (nI za), .int (nI zb), .ref ahA, .ref ahB, .ref ahC, .ref anum, .ref amsg, .ref astr])), (ablk, .inl (cI, 16, .inl (gA (gU (gU (gU (gU b0 0 1) 1 2) 2 1) 3 (rx / 65536)))))]) hx hb hK hP hD hS 1 0 rfl rfl rfl (by omega) (by omega) dX8_first_33 (fun H locs hP hD hS => ?_)
  refine lv_aload_n hx hb dX8_first_34 rfl (lv_at hl 0 rfl) ?_
  refine gv_get (own := RX8) (D := (dC, dI)) (ci := 7) (C := RX8) (T := TX8) (N := 23) (v := .ref ablk) hx hb hts (by decide +kernel) hown hK hP 0 rfl rfl 13 (by decide) (hts (.fieldLink RX8 35 "NumeralCipherModel" "block" "[I") (by decide +kernel)) rfl rfl dX8_first_35 ?_
  refine lv_iconst (v := nI 4) hx hb dX8_first_38 (by decide) ?_
  refine lv_aload_n hx hb dX8_first_39 rfl (lv_at hl 0 rfl) ?_
  refine gv_get (own := RX8) (D := (dC, dI)) (ci := 7) (C := RX8) (T := TX8) (N := 23) (v := .int (nI rx)) hx hb hts (by decide +kernel) hown hK hP 0 rfl rfl 7 (by decide) (hts (.fieldLink RX8 23 "NumeralCipherModel" "radix" "I") (by decide +kernel)) rfl rfl dX8_first_40 ?_
  refine lv_bipush (v := nI 8) hx hb dX8_first_43 (by decide) ?_
  refine gv_ishr (r := rx / 256) hx hb dX8_first_45 (by omega) (by omega) rfl ?_
  refine lv_sipush (v := nI 255) hx hb dX8_first_46 (by decide) ?_
  refine gv_iand (r := (rx / 256) &&& 255) hx hb dX8_first_49 rfl ?_
  refine gv_top (y := nI (rx / 256 % 256)) (congrArg nI (wz_255 _)) ?_
  refine gv_iast (ws' := [(mo, .inr (7, [.int (nI th), .int (nI by_), .ref abuf, .int (nI ks), .ref akey, .int (nI ts), .ref atwk, .int (nI rx), .int (nI mn), .ref arow, .ref abox, .ref awrd, .int (nI rd), .ref ablk, .ref amov, .int (nI za), .int (nI zb), .ref ahA, .ref ahB, .ref ahC, .ref anum, .ref amsg, .ref astr])), (ablk, .inl (cI, 16, .inl (gA (gU (gU (gU (gU (gU b0 0 1) 1 2) 2 1) 3 (rx / 65536)) 4 (rx / 256 % 256)))))]) hx hb hK hP hD hS 1 0 rfl rfl rfl (by omega) (by omega) dX8_first_50 (fun H locs hP hD hS => ?_)
  refine lv_aload_n hx hb dX8_first_51 rfl (lv_at hl 0 rfl) ?_
  refine gv_get (own := RX8) (D := (dC, dI)) (ci := 7) (C := RX8) (T := TX8) (N := 23) (v := .ref ablk) hx hb hts (by decide +kernel) hown hK hP 0 rfl rfl 13 (by decide) (hts (.fieldLink RX8 35 "NumeralCipherModel" "block" "[I") (by decide +kernel)) rfl rfl dX8_first_52 ?_
  refine lv_iconst (v := nI 5) hx hb dX8_first_55 (by decide) ?_
  refine lv_aload_n hx hb dX8_first_56 rfl (lv_at hl 0 rfl) ?_
  refine gv_get (own := RX8) (D := (dC, dI)) (ci := 7) (C := RX8) (T := TX8) (N := 23) (v := .int (nI rx)) hx hb hts (by decide +kernel) hown hK hP 0 rfl rfl 7 (by decide) (hts (.fieldLink RX8 23 "NumeralCipherModel" "radix" "I") (by decide +kernel)) rfl rfl dX8_first_57 ?_
  refine lv_sipush (v := nI 255) hx hb dX8_first_60 (by decide) ?_
  refine gv_iand (r := rx &&& 255) hx hb dX8_first_63 rfl ?_
  refine gv_top (y := nI (rx % 256)) (congrArg nI (wz_255 _)) ?_
  refine gv_iast (ws' := [(mo, .inr (7, [.int (nI th), .int (nI by_), .ref abuf, .int (nI ks), .ref akey, .int (nI ts), .ref atwk, .int (nI rx), .int (nI mn), .ref arow, .ref abox, .ref awrd, .int (nI rd), .ref ablk, .ref amov, .int (nI za), .int (nI zb), .ref ahA, .ref ahB, .ref ahC, .ref anum, .ref amsg, .ref astr])), (ablk, .inl (cI, 16, .inl (gA (gU (gU (gU (gU (gU (gU b0 0 1) 1 2) 2 1) 3 (rx / 65536)) 4 (rx / 256 % 256)) 5 (rx % 256)))))]) hx hb hK hP hD hS 1 0 rfl rfl rfl (by omega) (by omega) dX8_first_64 (fun H locs hP hD hS => ?_)
  refine lv_aload_n hx hb dX8_first_65 rfl (lv_at hl 0 rfl) ?_
  refine gv_get (own := RX8) (D := (dC, dI)) (ci := 7) (C := RX8) (T := TX8) (N := 23) (v := .ref ablk) hx hb hts (by decide +kernel) hown hK hP 0 rfl rfl 13 (by decide) (hts (.fieldLink RX8 35 "NumeralCipherModel" "block" "[I") (by decide +kernel)) rfl rfl dX8_first_66 ?_
  refine lv_bipush (v := nI 6) hx hb dX8_first_69 (by decide) ?_
  refine lv_bipush (v := nI 10) hx hb dX8_first_71 (by decide) ?_
  refine gv_iast (ws' := [(mo, .inr (7, [.int (nI th), .int (nI by_), .ref abuf, .int (nI ks), .ref akey, .int (nI ts), .ref atwk, .int (nI rx), .int (nI mn), .ref arow, .ref abox, .ref awrd, .int (nI rd), .ref ablk, .ref amov, .int (nI za), .int (nI zb), .ref ahA, .ref ahB, .ref ahC, .ref anum, .ref amsg, .ref astr])), (ablk, .inl (cI, 16, .inl (gA (gU (gU (gU (gU (gU (gU (gU b0 0 1) 1 2) 2 1) 3 (rx / 65536)) 4 (rx / 256 % 256)) 5 (rx % 256)) 6 10))))]) hx hb hK hP hD hS 1 0 rfl rfl rfl (by omega) (by omega) dX8_first_73 (fun H locs hP hD hS => ?_)
  refine lv_aload_n hx hb dX8_first_74 rfl (lv_at hl 0 rfl) ?_
  refine gv_get (own := RX8) (D := (dC, dI)) (ci := 7) (C := RX8) (T := TX8) (N := 23) (v := .ref ablk) hx hb hts (by decide +kernel) hown hK hP 0 rfl rfl 13 (by decide) (hts (.fieldLink RX8 35 "NumeralCipherModel" "block" "[I") (by decide +kernel)) rfl rfl dX8_first_75 ?_
  refine lv_bipush (v := nI 7) hx hb dX8_first_78 (by decide) ?_
  refine lv_iload_n hx hb dX8_first_80 rfl (lv_at hl 1 rfl) ?_
  refine gv_iast (ws' := [(mo, .inr (7, [.int (nI th), .int (nI by_), .ref abuf, .int (nI ks), .ref akey, .int (nI ts), .ref atwk, .int (nI rx), .int (nI mn), .ref arow, .ref abox, .ref awrd, .int (nI rd), .ref ablk, .ref amov, .int (nI za), .int (nI zb), .ref ahA, .ref ahB, .ref ahC, .ref anum, .ref amsg, .ref astr])), (ablk, .inl (cI, 16, .inl (gA (gU (gU (gU (gU (gU (gU (gU (gU b0 0 1) 1 2) 2 1) 3 (rx / 65536)) 4 (rx / 256 % 256)) 5 (rx % 256)) 6 10) 7 uu))))]) hx hb hK hP hD hS 1 0 rfl rfl rfl (by omega) (by omega) dX8_first_81 (fun H locs hP hD hS => ?_)
  have hlo : ∀ q, q < 8 → (gU (gU (gU (gU (gU (gU (gU (gU b0 0 1) 1 2) 2 1) 3 (rx / 65536)) 4 (rx / 256 % 256)) 5 (rx % 256)) 6 10) 7 uu) q = fstB rx uu 0 0 q := by intro q hq; rcases (show q = 0 ∨ q = 1 ∨ q = 2 ∨ q = 3 ∨ q = 4 ∨ q = 5 ∨ q = 6 ∨ q = 7 by omega) with e | e | e | e | e | e | e | e <;> subst e <;> rfl
  refine lv_bipush (v := nI 8) hx hb dX8_first_82 (by decide) ?_
  refine lv_istore_n (lv' := [(2, .int (nI 8)), (0, .ref mo), (1, .int (nI uu))]) hx hb dX8_first_84 rfl hl (by decide) rfl (fun ls hl => ?_)
  refine gw_lab (G := fun R args Q => ∀ (n9_85 : Nat) (i : Nat) (g : Nat → Nat), n9_85 = 16 - i → (8 ≤ i) → (i ≤ 16) → (∀ q, q < 8 → g q = fstB rx uu 0 0 q) → (∀ q, 8 ≤ q → q < i → g q = 0) → ∀ (H : Heap) (locs : List Loc), va_P (dC, dI) vwCl [(mo, .inr (7, [.int (nI th), .int (nI by_), .ref abuf, .int (nI ks), .ref akey, .int (nI ts), .ref atwk, .int (nI rx), .int (nI mn), .ref arow, .ref abox, .ref awrd, .int (nI rd), .ref ablk, .ref amov, .int (nI za), .int (nI zb), .ref ahA, .ref ahB, .ref ahC, .ref anum, .ref amsg, .ref astr])), (ablk, .inl (cI, 16, .inl (gA g)))] H → va_D A [(mo, .inr (7, [.int (nI th), .int (nI by_), .ref abuf, .int (nI ks), .ref akey, .int (nI ts), .ref atwk, .int (nI rx), .int (nI mn), .ref arow, .ref abox, .ref awrd, .int (nI rd), .ref ablk, .ref amov, .int (nI za), .int (nI zb), .ref ahA, .ref ahB, .ref ahC, .ref anum, .ref amsg, .ref astr])), (ablk, .inl (cI, 16, .inl (gA g)))] → va_S A s.heap H locs → ∀ (ls : Array Slot), lv_has ls 3 [(2, .int (nI i)), (0, .ref mo), (1, .int (nI uu))] → W p l e R s m args below meth c H locs 0 0 Q (F0 m 85 ls [])) ?_ (fun L85 => ?_)
  ·
    intro n9_85
    induction n9_85 using Nat.strongRecOn with
    | ind n9_85 ih9_85 =>
      intro i g hmu9_85 hi1 hi hlo hz H locs hP hD hS ls hl
      refine lv_iload_n hx hb dX8_first_85 rfl (lv_at hl 0 rfl) ?_
      refine lv_bipush (v := nI 16) hx hb dX8_first_86 (by decide) ?_
      refine gv_icmp_ge (tgt := 104) hx hb dX8_first_88 (by decide) (by omega) (by omega) (fun c_88 => ?_) (fun c_88 => ?_)
      ·
        have e9 : i = 16 := by omega
        rw [e9] at hz
        refine lv_aload_n hx hb dX8_first_104 rfl (lv_at hl 1 rfl) ?_
        refine gv_get (own := RX8) (D := (dC, dI)) (ci := 7) (C := RX8) (T := TX8) (N := 23) (v := .ref ablk) hx hb hts (by decide +kernel) hown hK hP 0 rfl rfl 13 (by decide) (hts (.fieldLink RX8 35 "NumeralCipherModel" "block" "[I") (by decide +kernel)) rfl rfl dX8_first_105 ?_
        refine lv_bipush (v := nI 11) hx hb dX8_first_108 (by decide) ?_
        refine lv_aload_n hx hb dX8_first_110 rfl (lv_at hl 1 rfl) ?_
        refine gv_get (own := RX8) (D := (dC, dI)) (ci := 7) (C := RX8) (T := TX8) (N := 23) (v := .int (nI mn)) hx hb hts (by decide +kernel) hown hK hP 0 rfl rfl 8 (by decide) (hts (.fieldLink RX8 89 "NumeralCipherModel" "many" "I") (by decide +kernel)) rfl rfl dX8_first_111 ?_
        refine gv_iast (ws' := [(mo, .inr (7, [.int (nI th), .int (nI by_), .ref abuf, .int (nI ks), .ref akey, .int (nI ts), .ref atwk, .int (nI rx), .int (nI mn), .ref arow, .ref abox, .ref awrd, .int (nI rd), .ref ablk, .ref amov, .int (nI za), .int (nI zb), .ref ahA, .ref ahB, .ref ahC, .ref anum, .ref amsg, .ref astr])), (ablk, .inl (cI, 16, .inl (gA (gU g 11 mn))))]) hx hb hK hP hD hS 1 0 rfl rfl rfl (by omega) (by omega) dX8_first_114 (fun H locs hP hD hS => ?_)
        refine lv_aload_n hx hb dX8_first_115 rfl (lv_at hl 1 rfl) ?_
        refine gv_get (own := RX8) (D := (dC, dI)) (ci := 7) (C := RX8) (T := TX8) (N := 23) (v := .ref ablk) hx hb hts (by decide +kernel) hown hK hP 0 rfl rfl 13 (by decide) (hts (.fieldLink RX8 35 "NumeralCipherModel" "block" "[I") (by decide +kernel)) rfl rfl dX8_first_116 ?_
        refine lv_bipush (v := nI 15) hx hb dX8_first_119 (by decide) ?_
        refine lv_aload_n hx hb dX8_first_121 rfl (lv_at hl 1 rfl) ?_
        refine gv_get (own := RX8) (D := (dC, dI)) (ci := 7) (C := RX8) (T := TX8) (N := 23) (v := .int (nI ts)) hx hb hts (by decide +kernel) hown hK hP 0 rfl rfl 5 (by decide) (hts (.fieldLink RX8 95 "NumeralCipherModel" "tweakSize" "I") (by decide +kernel)) rfl rfl dX8_first_122 ?_
        refine gv_iast (ws' := [(mo, .inr (7, [.int (nI th), .int (nI by_), .ref abuf, .int (nI ks), .ref akey, .int (nI ts), .ref atwk, .int (nI rx), .int (nI mn), .ref arow, .ref abox, .ref awrd, .int (nI rd), .ref ablk, .ref amov, .int (nI za), .int (nI zb), .ref ahA, .ref ahB, .ref ahC, .ref anum, .ref amsg, .ref astr])), (ablk, .inl (cI, 16, .inl (gA (gU (gU g 11 mn) 15 ts))))]) hx hb hK hP hD hS 1 0 rfl rfl rfl (by omega) (by omega) dX8_first_125 (fun H locs hP hD hS => ?_)
        exact W.vret hx hb hr (fun t ht hW => ⟨⟨(gU (gU g 11 mn) 15 ts), rfl, (fst_is (hlo 0 (by decide)) (hlo 1 (by decide)) (hlo 2 (by decide)) (hlo 3 (by decide)) (hlo 4 (by decide)) (hlo 5 (by decide)) (hlo 6 (by decide)) (hlo 7 (by decide)) hz), gB_end ht hW hP hK hD⟩, hS.F ht⟩) hS.2.2 dX8_first_126
      ·
        refine lv_aload_n hx hb dX8_first_91 rfl (lv_at hl 1 rfl) ?_
        refine gv_get (own := RX8) (D := (dC, dI)) (ci := 7) (C := RX8) (T := TX8) (N := 23) (v := .ref ablk) hx hb hts (by decide +kernel) hown hK hP 0 rfl rfl 13 (by decide) (hts (.fieldLink RX8 35 "NumeralCipherModel" "block" "[I") (by decide +kernel)) rfl rfl dX8_first_92 ?_
        refine lv_iload_n hx hb dX8_first_95 rfl (lv_at hl 0 rfl) ?_
        refine lv_iconst (v := nI 0) hx hb dX8_first_96 (by decide) ?_
        refine gv_iast (ws' := [(mo, .inr (7, [.int (nI th), .int (nI by_), .ref abuf, .int (nI ks), .ref akey, .int (nI ts), .ref atwk, .int (nI rx), .int (nI mn), .ref arow, .ref abox, .ref awrd, .int (nI rd), .ref ablk, .ref amov, .int (nI za), .int (nI zb), .ref ahA, .ref ahB, .ref ahC, .ref anum, .ref amsg, .ref astr])), (ablk, .inl (cI, 16, .inl (gA (gU g i 0))))]) hx hb hK hP hD hS 1 0 rfl rfl rfl (by omega) (by omega) dX8_first_97 (fun H locs hP hD hS => ?_)
        refine lv_iinc (v := nI (i + 1)) (lv' := [(2, .int (nI (i + 1))), (0, .ref mo), (1, .int (nI uu))]) hx hb dX8_first_98 hl (k := 0) rfl (gz_inc1 _) (by decide) rfl (fun ls hl => ?_)
        refine lv_goto (tgt := 85) hx hb dX8_first_101 (by decide) ?_
        exact ih9_85 _ (by omega) (i + 1) (gU g i 0) rfl (by omega) (by omega) (fun q hq => (gU_n (by omega)).trans (hlo q hq)) (first_z hz) _ _ hP hD hS _ hl
  exact L85 _ 8 (gU (gU (gU (gU (gU (gU (gU (gU b0 0 1) 1 2) 2 1) 3 (rx / 65536)) 4 (rx / 256 % 256)) 5 (rx % 256)) 6 10) 7 uu) rfl (by omega) (by omega) hlo (fun q h1 h2 => absurd h1 (by omega)) _ _ hP hD hS _ hl
