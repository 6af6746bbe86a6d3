set_option maxHeartbeats 4000000 in
set_option maxRecDepth 100000 in
/-- times(a, b) -/
theorem c_X8_times (l : Launch) (a : Nat) (b : Nat) (ha : a < 256) (hb0 : b < 256) : Met l yX8_times wsX8_times ({ frames := 0, cells := 0, slots := 0, locals := 0 }) (va_Pc [.int (nI a), .int (nI b)] (fun _ => True)) (QcRead (nI (tm a b))) 0 0 (fun _ => False) := by
  refine Met.ofW (cc := cX8_times) (maxL := 4) (ret := (some .int)) (by decide) rfl ?_
  intro p e s m args below meth c s₁ B9 hml hv
  obtain ⟨rfl, -⟩ := hv
  have hx := B9.exec
  have hb := B9.bytes
  have hr := B9.returns
  have hts := atoms_spec (ws := wsX8_times) B9.pre
  have hown : s.vm.findClass RX8 = some m.cls := findClass_of_methodNamed B9.named
  have hlocks := B9.notSynchronized
  have hl := lv_entry ([.int (nI a), .int (nI b)]) (n := 4) (Nat.le_of_ble_eq_true rfl)
  rw [lg_entry_eq]
  generalize (lg_sl ([.int (nI a), .int (nI b)]) ++ List.replicate (4 - (lg_sl ([.int (nI a), .int (nI b)])).length) Slot.unset).toArray = ls at hl ⊢
  have hl : lv_has ls 4 [(0, .int (nI a)), (1, .int (nI b))] := hl
  refine lv_iconst (v := nI 0) hx hb dX8_times_0 (by decide) ?_
  refine gv_top (y := nI (tmI a b (8 - 8))) rfl ?_
  refine lv_istore_n (lv' := [(2, .int (nI (tmI a b (8 - 8)))), (0, .int (nI a)), (1, .int (nI b))]) hx hb dX8_times_1 rfl hl (by decide) rfl (fun ls hl => ?_)
  refine lv_bipush (v := nI 7) hx hb dX8_times_2 (by decide) ?_
  refine gv_top (y := (nI 8 - 1)) (by decide) ?_
  refine lv_istore_n (lv' := [(3, .int (nI 8 - 1)), (2, .int (nI (tmI a b (8 - 8)))), (0, .int (nI a)), (1, .int (nI b))]) hx hb dX8_times_4 rfl hl (by decide) rfl (fun ls hl => ?_)
  refine gw_lab (G := fun R args Q => ∀ (n9_5 : Nat) (j : Nat), n9_5 = j → (j ≤ 8) → (tmI a b (8 - j) < 256) → ∀ (ls : Array Slot), lv_has ls 4 [(3, .int (nI j - 1)), (2, .int (nI (tmI a b (8 - j)))), (0, .int (nI a)), (1, .int (nI b))] → W p l e R s m args below meth c s.heap [] 0 0 Q (F0 m 5 ls [])) ?_ (fun L5 => ?_)
  ·
    intro n9_5
    induction n9_5 using Nat.strongRecOn with
    | ind n9_5 ih9_5 =>
      intro j hmu9_5 hj hv ls hl
      rcases j with _ | j
      ·
        refine lv_iload_n hx hb dX8_times_5 rfl (lv_at hl 0 rfl) ?_
        refine lv_if_lt (tgt := 53) hx hb dX8_times_6 (by decide) (fun _ => ?_) (fun c9 => absurd (by decide) c9)
        refine lv_iload_n hx hb dX8_times_53 rfl (lv_at hl 1 rfl) ?_
        refine gv_top (y := (nI (tm a b))) rfl ?_
        exact W.iret (v := (nI (tm a b))) hx hb hr (fun t ht hW => ⟨rfl, ht⟩) (fun q h => by cases h) dX8_times_54
      ·
        rw [nI_pred j] at hl
        refine lv_iload_n hx hb dX8_times_5 rfl (lv_at hl 0 rfl) ?_
        refine gv_if_lt (tgt := 53) hx hb dX8_times_6 (by decide) (by omega) ?_
        refine lv_iload_n hx hb dX8_times_9 rfl (lv_at hl 1 rfl) ?_
        refine lv_iconst (v := nI 1) hx hb dX8_times_10 (by decide) ?_
        refine gv_ishl (r := (tmI a b (8 - (j + 1))) * 2) hx hb dX8_times_11 (by omega) rfl ?_
        refine lv_istore_n (lv' := [(2, .int (nI ((tmI a b (8 - (j + 1))) * 2))), (3, .int (nI j)), (0, .int (nI a)), (1, .int (nI b))]) hx hb dX8_times_12 rfl hl (by decide) rfl (fun ls hl => ?_)
        refine gw_lab (G := fun R args Q =>  ∀ (ls : Array Slot), lv_has ls 4 [(2, .int (nI ((tmI a b (8 - (j + 1))) * 2))), (3, .int (nI j)), (0, .int (nI a)), (1, .int (nI b))] → W p l e R s m args below meth c s.heap [] 0 0 Q (F0 m 29 ls [.int (nI (if 255 < tmI a b (8 - (j + 1)) * 2 then tmI a b (8 - (j + 1)) * 2 ^^^ 283 else tmI a b (8 - (j + 1)) * 2))])) ?_ (fun L29 => ?_)
        ·
          intro  ls hl
          refine lv_istore_n (lv' := [(2, .int (nI (if 255 < tmI a b (8 - (j + 1)) * 2 then tmI a b (8 - (j + 1)) * 2 ^^^ 283 else tmI a b (8 - (j + 1)) * 2))), (3, .int (nI j)), (0, .int (nI a)), (1, .int (nI b))]) hx hb dX8_times_29 rfl hl (by decide) rfl (fun ls hl => ?_)
          have hw2 := tm_v2 _ hv
          refine gw_lab (G := fun R args Q =>  ∀ (ls : Array Slot), lv_has ls 4 [(2, .int (nI (if 255 < tmI a b (8 - (j + 1)) * 2 then tmI a b (8 - (j + 1)) * 2 ^^^ 283 else tmI a b (8 - (j + 1)) * 2))), (3, .int (nI j)), (0, .int (nI a)), (1, .int (nI b))] → W p l e R s m args below meth c s.heap [] 0 0 Q (F0 m 46 ls [.int (nI (tmI a b (8 - j)))])) ?_ (fun L46 => ?_)
          ·
            intro  ls hl
            refine lv_istore_n (lv' := [(2, .int (nI (tmI a b (8 - j)))), (3, .int (nI j)), (0, .int (nI a)), (1, .int (nI b))]) hx hb dX8_times_46 rfl hl (by decide) rfl (fun ls hl => ?_)
            refine lv_iinc (v := nI j - 1) (lv' := [(3, .int (nI j - 1)), (2, .int (nI (tmI a b (8 - j)))), (0, .int (nI a)), (1, .int (nI b))]) hx hb dX8_times_47 hl (k := 1) rfl (gz_pred1 _) (by decide) rfl (fun ls hl => ?_)
            refine lv_goto (tgt := 5) hx hb dX8_times_50 (by decide) ?_
            exact ih9_5 _ (by omega) j rfl (by omega) (by rw [tmI_step (by omega)]; exact tmS_lt ha hv) _ hl
          refine lv_iload_n hx hb dX8_times_30 rfl (lv_at hl 3 rfl) ?_
          refine lv_iload_n hx hb dX8_times_31 rfl (lv_at hl 1 rfl) ?_
          refine gv_ishr (r := b / (2 ^ j)) hx hb dX8_times_32 (by omega) (by omega) rfl ?_
          refine lv_iconst (v := nI 1) hx hb dX8_times_33 (by decide) ?_
          refine gv_iand (r := (b / (2 ^ j)) &&& 1) hx hb dX8_times_34 rfl ?_
          refine lv_iconst (v := nI 1) hx hb dX8_times_35 (by decide) ?_
          refine gv_icmp_ne (tgt := 45) hx hb dX8_times_36 (by decide) (Nat.lt_of_le_of_lt Nat.and_le_right (by decide)) (by decide) (fun c_36 => ?_) (fun c_36 => ?_)
          ·
            refine lv_iload_n hx hb dX8_times_45 rfl (lv_at hl 0 rfl) ?_
            refine gv_top (y := nI (tmI a b (8 - j))) (congrArg nI ((if_neg c_36).symm.trans (tmI_step (by omega)).symm)) ?_
            exact L46   _ hl
          ·
            refine lv_iload_n hx hb dX8_times_39 rfl (lv_at hl 0 rfl) ?_
            refine lv_iload_n hx hb dX8_times_40 rfl (lv_at hl 2 rfl) ?_
            refine gv_ixor (r := (if 255 < tmI a b (8 - (j + 1)) * 2 then tmI a b (8 - (j + 1)) * 2 ^^^ 283 else tmI a b (8 - (j + 1)) * 2) ^^^ a) hx hb dX8_times_41 rfl ?_
            refine gv_top (y := nI (tmI a b (8 - j))) (congrArg nI ((if_pos c_36).symm.trans (tmI_step (by omega)).symm)) ?_
            refine lv_goto (tgt := 46) hx hb dX8_times_42 (by decide) ?_
            exact L46   _ hl
        refine lv_iload_n hx hb dX8_times_13 rfl (lv_at hl 0 rfl) ?_
        refine lv_sipush (v := nI 255) hx hb dX8_times_14 (by decide) ?_
        refine gv_icmp_le (tgt := 28) hx hb dX8_times_17 (by decide) (by omega) (by omega) (fun c_17 => ?_) (fun c_17 => ?_)
        ·
          refine lv_iload_n hx hb dX8_times_28 rfl (lv_at hl 0 rfl) ?_
          refine gv_top (y := nI (if 255 < tmI a b (8 - (j + 1)) * 2 then tmI a b (8 - (j + 1)) * 2 ^^^ 283 else tmI a b (8 - (j + 1)) * 2)) (congrArg nI (if_neg (Nat.not_lt.mpr c_17)).symm) ?_
          exact L29   _ hl
        ·
          refine lv_iload_n hx hb dX8_times_20 rfl (lv_at hl 0 rfl) ?_
          refine lv_sipush (v := nI 283) hx hb dX8_times_21 (by decide) ?_
          refine gv_ixor (r := ((tmI a b (8 - (j + 1))) * 2) ^^^ 283) hx hb dX8_times_24 rfl ?_
          refine gv_top (y := nI (if 255 < tmI a b (8 - (j + 1)) * 2 then tmI a b (8 - (j + 1)) * 2 ^^^ 283 else tmI a b (8 - (j + 1)) * 2)) (congrArg nI (if_pos c_17).symm) ?_
          refine lv_goto (tgt := 29) hx hb dX8_times_25 (by decide) ?_
          exact L29   _ hl
  exact L5 _ 8 rfl (by omega) (by show (0 : Nat) < 256; decide) _ hl

set_option maxHeartbeats 4000000 in
set_option maxRecDepth 100000 in
/-- sOf(b) -/
theorem c_X8_sOf (l : Launch) (b : Nat) (hb0 : b < 256) : Met l yX8_sOf wsX8_sOf ({ frames := 1, cells := 0, slots := 0, locals := 23 }) (va_Pc [.int (nI b)] (fun _ => True)) (QcRead (nI (sOfN b))) 0 0 (fun _ => False) := by
  refine Met.ofW (cc := cX8_sOf) (maxL := 4) (ret := (some .int)) (by decide) rfl ?_
  intro p e s m args below meth c s₁ B9 hml hv
  obtain ⟨rfl, -⟩ := hv
  have hx := B9.exec
  have hb := B9.bytes
  have hr := B9.returns
  have hts := atoms_spec (ws := wsX8_sOf) B9.pre
  have hown : s.vm.findClass RX8 = some m.cls := findClass_of_methodNamed B9.named
  have hlocks := B9.notSynchronized
  have hl := lv_entry ([.int (nI b)]) (n := 4) (Nat.le_of_ble_eq_true rfl)
  rw [lg_entry_eq]
  generalize (lg_sl ([.int (nI b)]) ++ List.replicate (4 - (lg_sl ([.int (nI b)])).length) Slot.unset).toArray = ls at hl ⊢
  have hl : lv_has ls 4 [(0, .int (nI b))] := hl
  refine lv_iconst (v := nI 0) hx hb dX8_sOf_0 (by decide) ?_
  refine gv_top (y := nI (invI b 0)) rfl ?_
  refine lv_istore_n (lv' := [(1, .int (nI (invI b 0))), (0, .int (nI b))]) hx hb dX8_sOf_1 rfl hl (by decide) rfl (fun ls hl => ?_)
  refine lv_iconst (v := nI 1) hx hb dX8_sOf_2 (by decide) ?_
  refine lv_istore_n (lv' := [(2, .int (nI 1)), (1, .int (nI (invI b 0))), (0, .int (nI b))]) hx hb dX8_sOf_3 rfl hl (by decide) rfl (fun ls hl => ?_)
  refine gw_lab (G := fun R args Q => ∀ (n9_4 : Nat) (n : Nat), n9_4 = 255 - n → (n ≤ 255) → ∀ (ls : Array Slot), lv_has ls 4 [(2, .int (nI (n + 1))), (1, .int (nI (invI b n))), (0, .int (nI b))] → W p l e R s m args below meth c s.heap [] 0 0 Q (F0 m 4 ls [])) ?_ (fun L4 => ?_)
  ·
    intro n9_4
    induction n9_4 using Nat.strongRecOn with
    | ind n9_4 ih9_4 =>
      intro n hmu9_4 hn ls hl
      refine lv_iload_n hx hb dX8_sOf_4 rfl (lv_at hl 0 rfl) ?_
      refine lv_sipush (v := nI 256) hx hb dX8_sOf_5 (by decide) ?_
      refine gv_icmp_ge (tgt := 36) hx hb dX8_sOf_8 (by decide) (by omega) (by omega) (fun c_8 => ?_) (fun c_8 => ?_)
      ·
        have e9 : n = 255 := by omega
        rw [e9] at hl
        have hiv := invI_le b 255
        refine lv_iload_n hx hb dX8_sOf_36 rfl (lv_at hl 1 rfl) ?_
        refine lv_bipush (v := nI 99) hx hb dX8_sOf_37 (by decide) ?_
        refine gv_ixor (r := (invI b 255) ^^^ 99) hx hb dX8_sOf_39 rfl ?_
        refine gv_top (y := nI (sbI (invI b 255) 0)) rfl ?_
        refine lv_istore_n (lv' := [(2, .int (nI (sbI (invI b 255) 0))), (1, .int (nI (invI b 255))), (0, .int (nI b))]) hx hb dX8_sOf_40 rfl hl (by decide) rfl (fun ls hl => ?_)
        refine lv_iconst (v := nI 1) hx hb dX8_sOf_41 (by decide) ?_
        refine lv_istore_n (lv' := [(3, .int (nI 1)), (2, .int (nI (sbI (invI b 255) 0))), (1, .int (nI (invI b 255))), (0, .int (nI b))]) hx hb dX8_sOf_42 rfl hl (by decide) rfl (fun ls hl => ?_)
        refine gw_lab (G := fun R args Q => ∀ (n9_43 : Nat) (k : Nat), n9_43 = 4 - k → (k ≤ 4) → ∀ (ls : Array Slot), lv_has ls 4 [(3, .int (nI (k + 1))), (2, .int (nI (sbI (invI b 255) k))), (1, .int (nI (invI b 255))), (0, .int (nI b))] → W p l e R s m args below meth c s.heap [] 0 0 Q (F0 m 43 ls [])) ?_ (fun L43 => ?_)
        ·
          intro n9_43
          induction n9_43 using Nat.strongRecOn with
          | ind n9_43 ih9_43 =>
            intro k hmu9_43 hk ls hl
            refine lv_iload_n hx hb dX8_sOf_43 rfl (lv_at hl 0 rfl) ?_
            refine lv_iconst (v := nI 5) hx hb dX8_sOf_44 (by decide) ?_
            refine gv_icmp_ge (tgt := 71) hx hb dX8_sOf_45 (by decide) (by omega) (by omega) (fun c_45 => ?_) (fun c_45 => ?_)
            ·
              have e9 : k = 4 := by omega
              rw [e9] at hl
              refine lv_iload_n hx hb dX8_sOf_71 rfl (lv_at hl 1 rfl) ?_
              refine gv_top (y := (nI (sOfN b))) rfl ?_
              exact W.iret (v := (nI (sOfN b))) hx hb hr (fun t ht hW => ⟨rfl, ht⟩) (fun q h => by cases h) dX8_sOf_72
            ·
              refine lv_iload_n hx hb dX8_sOf_48 rfl (lv_at hl 1 rfl) ?_
              refine lv_iload_n hx hb dX8_sOf_49 rfl (lv_at hl 2 rfl) ?_
              refine lv_iload_n hx hb dX8_sOf_50 rfl (lv_at hl 0 rfl) ?_
              refine gv_ishl (r := (invI b 255) * (2 ^ (k + 1))) hx hb dX8_sOf_51 (by omega) rfl ?_
              refine lv_iload_n hx hb dX8_sOf_52 rfl (lv_at hl 2 rfl) ?_
              refine lv_bipush (v := nI 8) hx hb dX8_sOf_53 (by decide) ?_
              refine lv_iload_n hx hb dX8_sOf_55 rfl (lv_at hl 0 rfl) ?_
              refine gv_isub (r := 8 - (k + 1)) hx hb dX8_sOf_56 (by omega) ?_
              refine gv_ishr (r := (invI b 255) / (2 ^ (8 - (k + 1)))) hx hb dX8_sOf_57 (by omega) (by omega) rfl ?_
              refine gv_ior (r := ((invI b 255) * (2 ^ (k + 1))) ||| ((invI b 255) / (2 ^ (8 - (k + 1))))) hx hb dX8_sOf_58 rfl ?_
              refine lv_sipush (v := nI 255) hx hb dX8_sOf_59 (by decide) ?_
              refine gv_iand (r := (((invI b 255) * (2 ^ (k + 1))) ||| ((invI b 255) / (2 ^ (8 - (k + 1))))) &&& 255) hx hb dX8_sOf_62 rfl ?_
              refine gv_ixor (r := (sbI (invI b 255) k) ^^^ ((((invI b 255) * (2 ^ (k + 1))) ||| ((invI b 255) / (2 ^ (8 - (k + 1))))) &&& 255)) hx hb dX8_sOf_63 rfl ?_
              refine gv_top (y := nI (sbI (invI b 255) (k + 1))) rfl ?_
              refine lv_istore_n (lv' := [(2, .int (nI (sbI (invI b 255) (k + 1)))), (3, .int (nI (k + 1))), (1, .int (nI (invI b 255))), (0, .int (nI b))]) hx hb dX8_sOf_64 rfl hl (by decide) rfl (fun ls hl => ?_)
              refine lv_iinc (v := nI (k + 1 + 1)) (lv' := [(3, .int (nI (k + 1 + 1))), (2, .int (nI (sbI (invI b 255) (k + 1)))), (1, .int (nI (invI b 255))), (0, .int (nI b))]) hx hb dX8_sOf_65 hl (k := 1) rfl (gz_inc1 _) (by decide) rfl (fun ls hl => ?_)
              refine lv_goto (tgt := 43) hx hb dX8_sOf_68 (by decide) ?_
              exact ih9_43 _ (by omega) (k + 1) rfl (by omega) _ hl
        exact L43 _ 0 rfl (by omega) _ hl
      ·
        refine gw_lab (G := fun R args Q =>  ∀ (ls : Array Slot), lv_has ls 4 [(2, .int (nI (n + 1))), (1, .int (nI (invI b n))), (0, .int (nI b))] → W p l e R s m args below meth c s.heap [] 0 0 Q (F0 m 29 ls [.int (nI (invI b (n + 1)))])) ?_ (fun L29 => ?_)
        ·
          intro  ls hl
          refine lv_istore_n (lv' := [(1, .int (nI (invI b (n + 1)))), (2, .int (nI (n + 1))), (0, .int (nI b))]) hx hb dX8_sOf_29 rfl hl (by decide) rfl (fun ls hl => ?_)
          refine lv_iinc (v := nI (n + 1 + 1)) (lv' := [(2, .int (nI (n + 1 + 1))), (1, .int (nI (invI b (n + 1)))), (0, .int (nI b))]) hx hb dX8_sOf_30 hl (k := 1) rfl (gz_inc1 _) (by decide) rfl (fun ls hl => ?_)
          refine lv_goto (tgt := 4) hx hb dX8_sOf_33 (by decide) ?_
          exact ih9_4 _ (by omega) (n + 1) rfl (by omega) _ hl
        refine lv_iload_n hx hb dX8_sOf_11 rfl (lv_at hl 2 rfl) ?_
        refine gv_if_le (tgt := 28) hx hb dX8_sOf_12 (by decide) (by omega) (fun c_12 => ?_) (fun c_12 => ?_)
        ·
          refine lv_iload_n hx hb dX8_sOf_28 rfl (lv_at hl 1 rfl) ?_
          refine gv_top (y := nI (invI b (n + 1))) (congrArg nI (if_neg (fun q9 => absurd q9.1 (by omega))).symm) ?_
          exact L29   _ hl
        ·
          refine lv_iload_n hx hb dX8_sOf_15 rfl (lv_at hl 2 rfl) ?_
          refine lv_iload_n hx hb dX8_sOf_16 rfl (lv_at hl 0 rfl) ?_
          refine gv_callR (W.runS (As := [.int (nI b), .int (nI (n + 1))]) (rest := []) ⟨hx, hb, hml, hown, hts⟩ (c_X8_times l b (n + 1) (by omega) (by omega)) (va_cwS 2 hts gX8_sOf_X8_times rfl rfl rfl (by decide +kernel) ⟨Nat.le_of_ble_eq_true rfl, Nat.le_of_ble_eq_true rfl⟩) ⟨fun a U g mk q => q, fun U hU hW => ⟨rfl, trivial⟩⟩ rfl rfl hl.1 rfl (lv_room (Nat.le_of_ble_eq_true rfl)) dX8_sOf_17 ⟨Nat.zero_le _, Nat.zero_le _⟩) ?_
          refine lv_iconst (v := nI 1) hx hb dX8_sOf_20 (by decide) ?_
          refine gv_icmp_ne (tgt := 28) hx hb dX8_sOf_21 (by decide) (Nat.lt_trans (tmI_lt (a := b) (b := n + 1) hb0 8) (by decide)) (by decide) (fun c_21 => ?_) (fun c_21 => ?_)
          ·
            refine lv_iload_n hx hb dX8_sOf_28 rfl (lv_at hl 1 rfl) ?_
            refine gv_top (y := nI (invI b (n + 1))) (congrArg nI (if_neg (fun q9 => c_21 q9.2)).symm) ?_
            exact L29   _ hl
          ·
            refine lv_iload_n hx hb dX8_sOf_24 rfl (lv_at hl 0 rfl) ?_
            refine gv_top (y := nI (invI b (n + 1))) (congrArg nI (if_pos ⟨c_12, c_21⟩).symm) ?_
            refine lv_goto (tgt := 29) hx hb dX8_sOf_25 (by decide) ?_
            exact L29   _ hl
  exact L4 _ 0 rfl (by omega) _ hl
