set_option maxHeartbeats 4000000 in
set_option maxRecDepth 100000 in
/-- encipher(block): the block as the cipher makes it -/
theorem c_X0_encipher (l : Launch) (dC : Nat → ClassId) (dI : Nat → Nat → Nat) (cI : ClassId) (tS : Nat) (sz : Nat) (o : Nat) (sc : Nat) (mv : Nat) (bl : Nat) (w : Nat → Nat) (v : Nat → Nat) (b : Nat → Nat) (r : Nat) (Wk : Nat → Nat) (Bk : Nat → Nat) (hr1 : 1 ≤ r) (hr2 : r ≤ 14) (hw : ∀ k, k < 4 * (r + 1) → w k = pkf Wk k) (hW : ∀ j, j < 16 * (r + 1) → Wk j < 256) (hb0 : ∀ k, k < 4 → b k = pkf Bk k) (hB : ∀ j, j < 16 → Bk j < 256) : Met l yX0_encipher wsX0_encipher ({ frames := 2, cells := 0, slots := 0, locals := 42 }) (gPe dC dI cI tS [.ref o, .ref bl] [(o, .inr (0, [.ref sc, .ref mv, .int (nI r)])), (sc, .inl (cI, 60, .inl (gA w))), (mv, .inl (cI, 4, .inl (gA v))), (bl, .inl (cI, 4, .inl (gA b)))] sz) (va_Qv (fun u : (Nat → Nat) × (Nat → Nat) => (∀ k, k < 4 → u.2 k = pkf (encI Wk r Bk r) k)) (fun u t => gB dC dI cI (va_A [(o, .inr (0, [.ref sc, .ref mv, .int (nI r)])), (sc, .inl (cI, 60, .inl (gA w))), (mv, .inl (cI, 4, .inl (gA v))), (bl, .inl (cI, 4, .inl (gA b)))] sz) [(o, .inr (0, [.ref sc, .ref mv, .int (nI r)])), (sc, .inl (cI, 60, .inl (gA w))), (mv, .inl (cI, 4, .inl (gA u.1))), (bl, .inl (cI, 4, .inl (gA u.2)))] t) (va_A [(o, .inr (0, [.ref sc, .ref mv, .int (nI r)])), (sc, .inl (cI, 60, .inl (gA w))), (mv, .inl (cI, 4, .inl (gA v))), (bl, .inl (cI, 4, .inl (gA b)))] sz)) 0 0 (va_A [(o, .inr (0, [.ref sc, .ref mv, .int (nI r)])), (sc, .inl (cI, 60, .inl (gA w))), (mv, .inl (cI, 4, .inl (gA v))), (bl, .inl (cI, 4, .inl (gA b)))] sz) := by
  refine Met.ofW (cc := cX0_encipher) (maxL := 4) (ret := none) (by decide) rfl ?_
  intro p e s m args below meth c s₁ B9 hml hv
  obtain ⟨rfl, hsz, ⟨hP, hK, hD0⟩, hE⟩ := hv
  have hx := B9.exec
  have hb := B9.bytes
  have hr := B9.returns
  have hts := atoms_spec (ws := wsX0_encipher) B9.pre
  have hown : s.vm.findClass RX0 = some m.cls := findClass_of_methodNamed B9.named
  have hlocks := B9.notSynchronized
  subst hsz
  have hD := hD0.self (sz := s.heap.size)
  generalize hAe : va_A [(o, .inr (0, [.ref sc, .ref mv, .int (nI r)])), (sc, .inl (cI, 60, .inl (gA w))), (mv, .inl (cI, 4, .inl (gA v))), (bl, .inl (cI, 4, .inl (gA b)))] s.heap.size = A at hD hE ⊢
  have hA : ∀ q : Nat, s.heap.size ≤ q → A q := fun q h => by rw [← hAe]; exact Or.inr h
  have hS : va_S A s.heap s.heap [] := va_S.rf
  have hl := lv_entry ([.ref o, .ref bl]) (n := 4) (Nat.le_of_ble_eq_true rfl)
  rw [lg_entry_eq]
  generalize (lg_sl ([.ref o, .ref bl]) ++ List.replicate (4 - (lg_sl ([.ref o, .ref bl])).length) Slot.unset).toArray = ls at hl ⊢
  have hl : lv_has ls 4 [(0, .ref o), (1, .ref bl)] := hl
  refine lv_iconst (v := nI 0) hx hb dX0_encipher_0 (by decide) ?_
  refine lv_istore_n (lv' := [(2, .int (nI 0)), (0, .ref o), (1, .ref bl)]) hx hb dX0_encipher_1 rfl hl (by decide) rfl (fun ls hl => ?_)
  refine gw_lab (G := fun R args Q => ∀ (n9_2 : Nat) (i : Nat) (b1 : Nat → Nat), n9_2 = 4 - i → (i ≤ 4) → (∀ k, k < 4 → b1 k = if k < i then pkf (encI Wk r Bk 0) k else pkf Bk k) → ∀ (H : Heap) (locs : List Loc), va_P (dC, dI) vwCl [(o, .inr (0, [.ref sc, .ref mv, .int (nI r)])), (sc, .inl (cI, 60, .inl (gA w))), (mv, .inl (cI, 4, .inl (gA v))), (bl, .inl (cI, 4, .inl (gA b1)))] H → va_D A [(o, .inr (0, [.ref sc, .ref mv, .int (nI r)])), (sc, .inl (cI, 60, .inl (gA w))), (mv, .inl (cI, 4, .inl (gA v))), (bl, .inl (cI, 4, .inl (gA b1)))] → va_S A s.heap H locs → ∀ (ls : Array Slot), lv_has ls 4 [(2, .int (nI i)), (0, .ref o), (1, .ref bl)] → W p l e R s m args below meth c H locs 0 0 Q (F0 m 2 ls [])) ?_ (fun L2 => ?_)
  ·
    intro n9_2
    induction n9_2 using Nat.strongRecOn with
    | ind n9_2 ih9_2 =>
      intro i b1 hmu9_2 hi hf H locs hP hD hS ls hl
      refine lv_iload_n hx hb dX0_encipher_2 rfl (lv_at hl 0 rfl) ?_
      refine lv_iconst (v := nI 4) hx hb dX0_encipher_3 (by decide) ?_
      refine gv_icmp_ge (tgt := 25) hx hb dX0_encipher_4 (by decide) (by omega) (by omega) (fun c_4 => ?_) (fun c_4 => ?_)
      ·
        have e9 : i = 4 := by omega
        rw [e9] at hf
        have hf := fl_e hf
        refine lv_iconst (v := nI 1) hx hb dX0_encipher_25 (by decide) ?_
        refine lv_istore_n (lv' := [(2, .int (nI 1)), (0, .ref o), (1, .ref bl)]) hx hb dX0_encipher_26 rfl hl (by decide) rfl (fun ls hl => ?_)
        refine gw_lab (G := fun R args Q => ∀ (n9_27 : Nat) (i : Nat) (b1 : Nat → Nat) (v1 : Nat → Nat), n9_27 = r - i → (i ≤ r) → (∀ k, k < 4 → b1 k = pkf (encI Wk r Bk i) k) → ∀ (H : Heap) (locs : List Loc), va_P (dC, dI) vwCl [(o, .inr (0, [.ref sc, .ref mv, .int (nI r)])), (sc, .inl (cI, 60, .inl (gA w))), (mv, .inl (cI, 4, .inl (gA v1))), (bl, .inl (cI, 4, .inl (gA b1)))] H → va_D A [(o, .inr (0, [.ref sc, .ref mv, .int (nI r)])), (sc, .inl (cI, 60, .inl (gA w))), (mv, .inl (cI, 4, .inl (gA v1))), (bl, .inl (cI, 4, .inl (gA b1)))] → va_S A s.heap H locs → ∀ (ls : Array Slot), lv_has ls 4 [(2, .int (nI (i + 1))), (0, .ref o), (1, .ref bl)] → W p l e R s m args below meth c H locs 0 0 Q (F0 m 27 ls [])) ?_ (fun L27 => ?_)
        ·
          intro n9_27
          induction n9_27 using Nat.strongRecOn with
          | ind n9_27 ih9_27 =>
            intro i b1 v1 hmu9_27 hi hf H locs hP hD hS ls hl
            have hX := encI_lt hW hB i hi
            refine lv_iload_n hx hb dX0_encipher_27 rfl (lv_at hl 0 rfl) ?_
            refine lv_aload_n hx hb dX0_encipher_28 rfl (lv_at hl 1 rfl) ?_
            refine gv_get (own := RX0) (D := (dC, dI)) (ci := 0) (C := RX0) (T := TX0) (N := 3) (v := .int (nI r)) hx hb hts (by decide +kernel) hown hK hP 0 rfl rfl 2 (by decide) (hts (.fieldLink RX0 24 "NumeralCipher$BlockCipher" "rounds" "I") (by decide +kernel)) rfl rfl dX0_encipher_29 ?_
            refine gv_icmp_gt (tgt := 121) hx hb dX0_encipher_32 (by decide) (by omega) (by omega) (fun c_32 => ?_) (fun c_32 => ?_)
            ·
              have e9 : i = r := by omega
              rw [e9] at hf
              exact W.vret hx hb hr (fun t ht hW => ⟨⟨(v1, b1), rfl, hf, gB_end ht hW hP hK hD⟩, hS.F ht⟩) hS.2.2 dX0_encipher_121
            ·
              refine lv_iconst (v := nI 0) hx hb dX0_encipher_35 (by decide) ?_
              refine lv_istore_n (lv' := [(3, .int (nI 0)), (2, .int (nI (i + 1))), (0, .ref o), (1, .ref bl)]) hx hb dX0_encipher_36 rfl hl (by decide) rfl (fun ls hl => ?_)
              refine gw_lab (G := fun R args Q => ∀ (n9_37 : Nat) (k : Nat) (v2 : Nat → Nat), n9_37 = 4 - k → (k ≤ 4) → (∀ q, q < 4 → v2 q = if q < k then pkf (subR (encI Wk r Bk i)) q else v1 q) → ∀ (H : Heap) (locs : List Loc), va_P (dC, dI) vwCl [(o, .inr (0, [.ref sc, .ref mv, .int (nI r)])), (sc, .inl (cI, 60, .inl (gA w))), (mv, .inl (cI, 4, .inl (gA v2))), (bl, .inl (cI, 4, .inl (gA b1)))] H → va_D A [(o, .inr (0, [.ref sc, .ref mv, .int (nI r)])), (sc, .inl (cI, 60, .inl (gA w))), (mv, .inl (cI, 4, .inl (gA v2))), (bl, .inl (cI, 4, .inl (gA b1)))] → va_S A s.heap H locs → ∀ (ls : Array Slot), lv_has ls 4 [(3, .int (nI k)), (2, .int (nI (i + 1))), (0, .ref o), (1, .ref bl)] → W p l e R s m args below meth c H locs 0 0 Q (F0 m 37 ls [])) ?_ (fun L37 => ?_)
              ·
                intro n9_37
                induction n9_37 using Nat.strongRecOn with
                | ind n9_37 ih9_37 =>
                  intro k v2 hmu9_37 hk hv H locs hP hD hS ls hl
                  refine lv_iload_n hx hb dX0_encipher_37 rfl (lv_at hl 0 rfl) ?_
                  refine lv_iconst (v := nI 4) hx hb dX0_encipher_38 (by decide) ?_
                  refine gv_icmp_ge (tgt := 62) hx hb dX0_encipher_39 (by decide) (by omega) (by omega) (fun c_39 => ?_) (fun c_39 => ?_)
                  ·
                    have e9 : k = 4 := by omega
                    rw [e9] at hv
                    have hv := fl_e hv
                    refine lv_iconst (v := nI 0) hx hb dX0_encipher_62 (by decide) ?_
                    refine lv_istore_n (lv' := [(3, .int (nI 0)), (2, .int (nI (i + 1))), (0, .ref o), (1, .ref bl)]) hx hb dX0_encipher_63 rfl hl (by decide) rfl (fun ls hl => ?_)
                    refine gw_lab (G := fun R args Q => ∀ (n9_64 : Nat) (k : Nat) (b3 : Nat → Nat), n9_64 = 4 - k → (k ≤ 4) → (∀ q, q < 4 → b3 q = if q < k then pkf (encI Wk r Bk (i + 1)) q else pkf (encI Wk r Bk i) q) → ∀ (H : Heap) (locs : List Loc), va_P (dC, dI) vwCl [(o, .inr (0, [.ref sc, .ref mv, .int (nI r)])), (sc, .inl (cI, 60, .inl (gA w))), (mv, .inl (cI, 4, .inl (gA v2))), (bl, .inl (cI, 4, .inl (gA b3)))] H → va_D A [(o, .inr (0, [.ref sc, .ref mv, .int (nI r)])), (sc, .inl (cI, 60, .inl (gA w))), (mv, .inl (cI, 4, .inl (gA v2))), (bl, .inl (cI, 4, .inl (gA b3)))] → va_S A s.heap H locs → ∀ (ls : Array Slot), lv_has ls 4 [(3, .int (nI k)), (2, .int (nI (i + 1))), (0, .ref o), (1, .ref bl)] → W p l e R s m args below meth c H locs 0 0 Q (F0 m 64 ls [])) ?_ (fun L64 => ?_)
                    ·
                      intro n9_64
                      induction n9_64 using Nat.strongRecOn with
                      | ind n9_64 ih9_64 =>
                        intro k b3 hmu9_64 hk hf3 H locs hP hD hS ls hl
                        refine lv_iload_n hx hb dX0_encipher_64 rfl (lv_at hl 0 rfl) ?_
                        refine lv_iconst (v := nI 4) hx hb dX0_encipher_65 (by decide) ?_
                        refine gv_icmp_ge (tgt := 115) hx hb dX0_encipher_66 (by decide) (by omega) (by omega) (fun c_66 => ?_) (fun c_66 => ?_)
                        ·
                          have e9 : k = 4 := by omega
                          rw [e9] at hf3
                          have hf3 := fl_e hf3
                          refine lv_iinc (v := nI (i + 1 + 1)) (lv' := [(2, .int (nI (i + 1 + 1))), (3, .int (nI k)), (0, .ref o), (1, .ref bl)]) hx hb dX0_encipher_115 hl (k := 1) rfl (gz_inc1 _) (by decide) rfl (fun ls hl => ?_)
                          refine lv_goto (tgt := 27) hx hb dX0_encipher_118 (by decide) ?_
                          exact ih9_27 _ (by omega) (i + 1) b3 v2 rfl (by omega) hf3 _ _ hP hD hS _ (lv_sub hl [0, 2, 3] rfl)
                        ·
                          refine lv_aload_n hx hb dX0_encipher_69 rfl (lv_at hl 3 rfl) ?_
                          refine lv_iload_n hx hb dX0_encipher_70 rfl (lv_at hl 0 rfl) ?_
                          refine lv_iload_n hx hb dX0_encipher_71 rfl (lv_at hl 1 rfl) ?_
                          refine lv_aload_n hx hb dX0_encipher_72 rfl (lv_at hl 2 rfl) ?_
                          refine gv_get (own := RX0) (D := (dC, dI)) (ci := 0) (C := RX0) (T := TX0) (N := 3) (v := .int (nI r)) hx hb hts (by decide +kernel) hown hK hP 0 rfl rfl 2 (by decide) (hts (.fieldLink RX0 24 "NumeralCipher$BlockCipher" "rounds" "I") (by decide +kernel)) rfl rfl dX0_encipher_73 ?_
                          refine gw_lab (G := fun R args Q =>  ∀ (H : Heap) (locs : List Loc), va_P (dC, dI) vwCl [(o, .inr (0, [.ref sc, .ref mv, .int (nI r)])), (sc, .inl (cI, 60, .inl (gA w))), (mv, .inl (cI, 4, .inl (gA v2))), (bl, .inl (cI, 4, .inl (gA b3)))] H → va_D A [(o, .inr (0, [.ref sc, .ref mv, .int (nI r)])), (sc, .inl (cI, 60, .inl (gA w))), (mv, .inl (cI, 4, .inl (gA v2))), (bl, .inl (cI, 4, .inl (gA b3)))] → va_S A s.heap H locs → ∀ (ls : Array Slot), lv_has ls 4 [(3, .int (nI k)), (2, .int (nI (i + 1))), (0, .ref o), (1, .ref bl)] → W p l e R s m args below meth c H locs 0 0 Q (F0 m 97 ls [.int (nI (if i + 1 < r then pkf (mixR (subR (encI Wk r Bk i))) k else pkf (subR (encI Wk r Bk i)) k)), .int (nI k), .ref bl])) ?_ (fun L97 => ?_)
                          ·
                            intro  H locs hP hD hS ls hl
                            refine lv_aload_n hx hb dX0_encipher_97 rfl (lv_at hl 2 rfl) ?_
                            refine gv_get (own := RX0) (D := (dC, dI)) (ci := 0) (C := RX0) (T := TX0) (N := 3) (v := .ref sc) hx hb hts (by decide +kernel) hown hK hP 0 rfl rfl 0 (by decide) (hts (.fieldLink RX0 11 "NumeralCipher$BlockCipher" "schedule" "[I") (by decide +kernel)) rfl rfl dX0_encipher_98 ?_
                            refine lv_iconst (v := nI 4) hx hb dX0_encipher_101 (by decide) ?_
                            refine lv_iload_n hx hb dX0_encipher_102 rfl (lv_at hl 1 rfl) ?_
                            refine gv_imul (r := 4 * (i + 1)) hx hb dX0_encipher_103 rfl ?_
                            refine lv_iload_n hx hb dX0_encipher_104 rfl (lv_at hl 0 rfl) ?_
                            refine gv_iadd (r := (4 * (i + 1)) + k) hx hb dX0_encipher_105 rfl ?_
                            refine gv_iald hx hb hK hP 1 0 rfl rfl (by omega) (by omega) dX0_encipher_106 ?_
                            refine gv_top (y := nI (pkf Wk (4 * (i + 1) + k))) (congrArg nI (hw _ (by omega))) ?_
                            refine gv_ixor (r := (if i + 1 < r then pkf (mixR (subR (encI Wk r Bk i))) k else pkf (subR (encI Wk r Bk i)) k) ^^^ (pkf Wk (4 * (i + 1) + k))) hx hb dX0_encipher_107 rfl ?_
                            refine gv_top (y := nI (pkf (encI Wk r Bk (i + 1)) k)) (congrArg nI (pkf_rd c_66 (fun j hj => hW _ (by omega)) hX)) ?_
                            refine gv_iast (ws' := [(o, .inr (0, [.ref sc, .ref mv, .int (nI r)])), (sc, .inl (cI, 60, .inl (gA w))), (mv, .inl (cI, 4, .inl (gA v2))), (bl, .inl (cI, 4, .inl (gA (gU b3 k (pkf (encI Wk r Bk (i + 1)) k)))))]) hx hb hK hP hD hS 3 0 rfl rfl rfl (by omega) (by omega) dX0_encipher_108 (fun H locs hP hD hS => ?_)
                            refine lv_iinc (v := nI (k + 1)) (lv' := [(3, .int (nI (k + 1))), (2, .int (nI (i + 1))), (0, .ref o), (1, .ref bl)]) hx hb dX0_encipher_109 hl (k := 0) rfl (gz_inc1 _) (by decide) rfl (fun ls hl => ?_)
                            refine lv_goto (tgt := 64) hx hb dX0_encipher_112 (by decide) ?_
                            exact ih9_64 _ (by omega) (k + 1) (gU b3 k (pkf (encI Wk r Bk (i + 1)) k)) rfl (by omega) (fl_s hf3 rfl) _ _ hP hD hS _ hl
                          refine gv_icmp_ge (tgt := 91) hx hb dX0_encipher_76 (by decide) (by omega) (by omega) (fun c_76 => ?_) (fun c_76 => ?_)
                          ·
                            refine lv_aload_n hx hb dX0_encipher_91 rfl (lv_at hl 2 rfl) ?_
                            refine gv_get (own := RX0) (D := (dC, dI)) (ci := 0) (C := RX0) (T := TX0) (N := 3) (v := .ref mv) hx hb hts (by decide +kernel) hown hK hP 0 rfl rfl 1 (by decide) (hts (.fieldLink RX0 15 "NumeralCipher$BlockCipher" "moved" "[I") (by decide +kernel)) rfl rfl dX0_encipher_92 ?_
                            refine lv_iload_n hx hb dX0_encipher_95 rfl (lv_at hl 0 rfl) ?_
                            refine gv_iald hx hb hK hP 2 0 rfl rfl (by omega) (by omega) dX0_encipher_96 ?_
                            refine gv_top (y := nI (if i + 1 < r then pkf (mixR (subR (encI Wk r Bk i))) k else pkf (subR (encI Wk r Bk i)) k)) (congrArg nI ((hv k c_66).trans (if_neg (by omega)).symm)) ?_
                            exact L97   _ _ hP hD hS _ hl
                          ·
                            refine lv_aload_n hx hb dX0_encipher_79 rfl (lv_at hl 2 rfl) ?_
                            refine gv_get (own := RX0) (D := (dC, dI)) (ci := 0) (C := RX0) (T := TX0) (N := 3) (v := .ref mv) hx hb hts (by decide +kernel) hown hK hP 0 rfl rfl 1 (by decide) (hts (.fieldLink RX0 15 "NumeralCipher$BlockCipher" "moved" "[I") (by decide +kernel)) rfl rfl dX0_encipher_80 ?_
                            refine lv_iload_n hx hb dX0_encipher_83 rfl (lv_at hl 0 rfl) ?_
                            refine gv_iald hx hb hK hP 2 0 rfl rfl (by omega) (by omega) dX0_encipher_84 ?_
                            refine gv_top (y := nI (pkf (subR (encI Wk r Bk i)) k)) (congrArg nI (hv k c_66)) ?_
                            refine gv_callR (W.runS (As := [.int (nI (pkf (subR (encI Wk r Bk i)) k))]) (rest := [.int (nI k), .ref bl]) ⟨hx, hb, hml, hown, hts⟩ (c_X0_mixed l ((subR (encI Wk r Bk i)) (4 * k)) ((subR (encI Wk r Bk i)) (4 * k + 1)) ((subR (encI Wk r Bk i)) (4 * k + 2)) ((subR (encI Wk r Bk i)) (4 * k + 3)) (subR_lt hX _ (by omega)) (subR_lt hX _ (by omega)) (subR_lt hX _ (by omega)) (subR_lt hX _ (by omega))) (va_cwS 1 hts gX0_encipher_X0_mixed rfl rfl rfl (by decide +kernel) ⟨Nat.le_of_ble_eq_true rfl, Nat.le_of_ble_eq_true rfl⟩) ⟨fun a U g mk q => q, fun U hU hW => ⟨rfl, trivial⟩⟩ rfl rfl hl.1 rfl (lv_room (Nat.le_of_ble_eq_true rfl)) dX0_encipher_85 ⟨Nat.zero_le _, Nat.zero_le _⟩) ?_
                            refine gv_top (y := nI (if i + 1 < r then pkf (mixR (subR (encI Wk r Bk i))) k else pkf (subR (encI Wk r Bk i)) k)) (congrArg nI ((pkf_mix _ _).trans (if_pos c_76).symm)) ?_
                            refine lv_goto (tgt := 97) hx hb dX0_encipher_88 (by decide) ?_
                            exact L97   _ _ hP hD hS _ hl
                    exact L64 _ 0 b1 rfl (by omega) (fl_0 hf) _ _ hP hD hS _ hl
                  ·
                    refine lv_aload_n hx hb dX0_encipher_42 rfl (lv_at hl 2 rfl) ?_
                    refine gv_get (own := RX0) (D := (dC, dI)) (ci := 0) (C := RX0) (T := TX0) (N := 3) (v := .ref mv) hx hb hts (by decide +kernel) hown hK hP 0 rfl rfl 1 (by decide) (hts (.fieldLink RX0 15 "NumeralCipher$BlockCipher" "moved" "[I") (by decide +kernel)) rfl rfl dX0_encipher_43 ?_
                    refine lv_iload_n hx hb dX0_encipher_46 rfl (lv_at hl 0 rfl) ?_
                    refine lv_aload_n hx hb dX0_encipher_47 rfl (lv_at hl 3 rfl) ?_
                    refine lv_iload_n hx hb dX0_encipher_48 rfl (lv_at hl 0 rfl) ?_
                    have hPc := hP.sub (ws' := [(bl, .inl (cI, 4, .inl (gA b1)))]) [3] rfl
                    have hDc := hD.sub (ws' := [(bl, .inl (cI, 4, .inl (gA b1)))]) [3] (by decide) rfl
                    refine gv_callR (W.runS (As := [.ref bl, .int (nI k)]) (rest := [.int (nI k), .ref mv]) ⟨hx, hb, hml, hown, hts⟩ (c_X0_diagonal l dC dI cI H.size bl b1 (encI Wk r Bk i) k (by omega) hf hX) (va_cwS 2 hts gX0_encipher_X0_diagonal rfl rfl rfl (by decide +kernel) ⟨Nat.le_of_ble_eq_true rfl, Nat.le_of_ble_eq_true rfl⟩) ⟨gPc_blind, gPc_pre hPc hK hDc⟩ rfl rfl hl.1 rfl (lv_room (Nat.le_of_ble_eq_true rfl)) dX0_encipher_49 ⟨Nat.zero_le _, Nat.zero_le _⟩) ?_
                    clear hPc hDc
                    refine gv_callR (W.runS (As := [.int (nI (pk ((encI Wk r Bk i) (4 * k)) ((encI Wk r Bk i) (4 * ((k + 1) % 4) + 1)) ((encI Wk r Bk i) (4 * ((k + 2) % 4) + 2)) ((encI Wk r Bk i) (4 * ((k + 3) % 4) + 3))))]) (rest := [.int (nI k), .ref mv]) ⟨hx, hb, hml, hown, hts⟩ (c_X0_substituted l tS (encI Wk r Bk i (4 * k)) (encI Wk r Bk i (4 * ((k + 1) % 4) + 1)) (encI Wk r Bk i (4 * ((k + 2) % 4) + 2)) (encI Wk r Bk i (4 * ((k + 3) % 4) + 3)) (hX _ (by omega)) (hX _ (by omega)) (hX _ (by omega)) (hX _ (by omega))) (va_cwS 1 hts gX0_encipher_X0_substituted rfl rfl rfl (by decide +kernel) ⟨Nat.le_of_ble_eq_true rfl, Nat.le_of_ble_eq_true rfl⟩) ⟨gEp_blind, gEp_pre (hE.at hS) (fun _ h => h.elim)⟩ rfl rfl hl.1 rfl (lv_room (Nat.le_of_ble_eq_true rfl)) dX0_encipher_52 ⟨Nat.zero_le _, Nat.zero_le _⟩) ?_
                    refine gv_top (y := nI (pkf (subR (encI Wk r Bk i)) k)) (congrArg nI (pkf_sub _ c_39)) ?_
                    refine gv_iast (ws' := [(o, .inr (0, [.ref sc, .ref mv, .int (nI r)])), (sc, .inl (cI, 60, .inl (gA w))), (mv, .inl (cI, 4, .inl (gA (gU v2 k (pkf (subR (encI Wk r Bk i)) k))))), (bl, .inl (cI, 4, .inl (gA b1)))]) hx hb hK hP hD hS 2 0 rfl rfl rfl (by omega) (by omega) dX0_encipher_55 (fun H locs hP hD hS => ?_)
                    refine lv_iinc (v := nI (k + 1)) (lv' := [(3, .int (nI (k + 1))), (2, .int (nI (i + 1))), (0, .ref o), (1, .ref bl)]) hx hb dX0_encipher_56 hl (k := 0) rfl (gz_inc1 _) (by decide) rfl (fun ls hl => ?_)
                    refine lv_goto (tgt := 37) hx hb dX0_encipher_59 (by decide) ?_
                    exact ih9_37 _ (by omega) (k + 1) (gU v2 k (pkf (subR (encI Wk r Bk i)) k)) rfl (by omega) (fl_s hv rfl) _ _ hP hD hS _ hl
              exact L37 _ 0 v1 rfl (by omega) (fl_0 (fun _ _ => rfl)) _ _ hP hD hS _ hl
        exact L27 _ 0 b1 v rfl (by omega) hf _ _ hP hD hS _ hl
      ·
        refine lv_aload_n hx hb dX0_encipher_7 rfl (lv_at hl 2 rfl) ?_
        refine lv_iload_n hx hb dX0_encipher_8 rfl (lv_at hl 0 rfl) ?_
        refine lv_dup2_11 hx hb dX0_encipher_9 rfl rfl ?_
        refine gv_iald hx hb hK hP 3 0 rfl rfl (by omega) (by omega) dX0_encipher_10 ?_
        refine gv_top (y := nI (pkf Bk i)) (congrArg nI (fl_hi hf c_4 (Nat.le_refl _))) ?_
        refine lv_aload_n hx hb dX0_encipher_11 rfl (lv_at hl 1 rfl) ?_
        refine gv_get (own := RX0) (D := (dC, dI)) (ci := 0) (C := RX0) (T := TX0) (N := 3) (v := .ref sc) hx hb hts (by decide +kernel) hown hK hP 0 rfl rfl 0 (by decide) (hts (.fieldLink RX0 11 "NumeralCipher$BlockCipher" "schedule" "[I") (by decide +kernel)) rfl rfl dX0_encipher_12 ?_
        refine lv_iload_n hx hb dX0_encipher_15 rfl (lv_at hl 0 rfl) ?_
        refine gv_iald hx hb hK hP 1 0 rfl rfl (by omega) (by omega) dX0_encipher_16 ?_
        refine gv_top (y := nI (pkf Wk i)) (congrArg nI (hw i (by omega))) ?_
        refine gv_ixor (r := (pkf Bk i) ^^^ (pkf Wk i)) hx hb dX0_encipher_17 rfl ?_
        refine gv_iast (ws' := [(o, .inr (0, [.ref sc, .ref mv, .int (nI r)])), (sc, .inl (cI, 60, .inl (gA w))), (mv, .inl (cI, 4, .inl (gA v))), (bl, .inl (cI, 4, .inl (gA (gU b1 i ((pkf Bk i) ^^^ (pkf Wk i))))))]) hx hb hK hP hD hS 3 0 rfl rfl rfl (by omega) (by omega) dX0_encipher_18 (fun H locs hP hD hS => ?_)
        refine lv_iinc (v := nI (i + 1)) (lv' := [(2, .int (nI (i + 1))), (0, .ref o), (1, .ref bl)]) hx hb dX0_encipher_19 hl (k := 0) rfl (gz_inc1 _) (by decide) rfl (fun ls hl => ?_)
        refine lv_goto (tgt := 2) hx hb dX0_encipher_22 (by decide) ?_
        exact ih9_2 _ (by omega) (i + 1) (gU b1 i ((pkf Bk i) ^^^ (pkf Wk i))) rfl (by omega) (fl_s hf (pkf_x0 hB hW c_4)) _ _ hP hD hS _ hl
  exact L2 _ 0 b rfl (by omega) (fl_0 hb0) _ _ hP hD hS _ hl
