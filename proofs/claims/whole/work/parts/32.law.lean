set_option maxHeartbeats 4000000 in
set_option maxRecDepth 100000 in
/-- the law calls type: ok -/
theorem w_L_type_ok (l : Launch) (hl0 : l.stackTraces = false) (dC : Nat → ClassId) (dI : Nat → Nat → Nat) (cI cL : ClassId) (tS : Nat) (sz : Nat) (x : Nat) (bf : Nat) (kb : Nat) (to : Nat) (ro : Nat) (fw : Nat) (sw : Nat) (na : Nat) (wo : Nat) (bc : Nat) (bn : Nat) (V9 : Nat) (n : Nat) (b0 : Nat → Nat) (out : Nat) (o0 : Nat → Int64) (hV : V9 < 18446744073709551616) (hn1 : 1 ≤ n) (hn2 : n ≤ 8) (hbn : bn + n ≤ 64) : Met l yL_type wsL_type ({ frames := 1, cells := 0, slots := 0, locals := 24 }) (gPw dC dI cI cL tS [.ref x, .long (lN V9), .int (nI n), .ref out] [(x, .inr (6, [.ref bf, .ref kb, .ref to, .ref ro, .ref fw, .ref sw, .ref na, .ref wo])), (bf, .inr (1, [.ref bc, .int (nI bn)])), (bc, .inl (cI, 64, .inl (gA b0))), (out, .inl (cL, 1, .inr (.inl o0)))] sz) (va_Qi (fun (r7 : Int32) (u : (Nat → Nat) × (Nat → Int64)) => r7 = (nI 0) ∧ (∀ q, q < 64 → u.1 q = tyF V9 bn n b0 q) ∧ (u.2 0 = (nI (bn + n)).toInt64)) (fun u t => gB2 dC dI cI cL (va_A [(x, .inr (6, [.ref bf, .ref kb, .ref to, .ref ro, .ref fw, .ref sw, .ref na, .ref wo])), (bf, .inr (1, [.ref bc, .int (nI bn)])), (bc, .inl (cI, 64, .inl (gA b0))), (out, .inl (cL, 1, .inr (.inl o0)))] sz) [(x, .inr (6, [.ref bf, .ref kb, .ref to, .ref ro, .ref fw, .ref sw, .ref na, .ref wo])), (bf, .inr (1, [.ref bc, .int (nI (bn + n))])), (bc, .inl (cI, 64, .inl (gA u.1))), (out, .inl (cL, 1, .inr (.inl u.2)))] t) (va_A [(x, .inr (6, [.ref bf, .ref kb, .ref to, .ref ro, .ref fw, .ref sw, .ref na, .ref wo])), (bf, .inr (1, [.ref bc, .int (nI bn)])), (bc, .inl (cI, 64, .inl (gA b0))), (out, .inl (cL, 1, .inr (.inl o0)))] sz)) 0 0 (va_A [(x, .inr (6, [.ref bf, .ref kb, .ref to, .ref ro, .ref fw, .ref sw, .ref na, .ref wo])), (bf, .inr (1, [.ref bc, .int (nI bn)])), (bc, .inl (cI, 64, .inl (gA b0))), (out, .inl (cL, 1, .inr (.inl o0)))] sz) := by
  refine va_MetW (cc := cL_type) (maxL := 6) (ret := (some .int)) (by decide) rfl ?_
  intro p e s m args below meth c s₁ B9 hml hv
  obtain ⟨rfl, hsz, ⟨hP, hK2, hD0⟩, hG⟩ := hv
  have hK := hK2.sub (tys' := [(cI, .int)]) [0] rfl
  have hx := B9.exec
  have hb := B9.bytes
  have hr := B9.returns
  have hts := atoms_spec (ws := wsL_type) B9.pre
  have htab := vx_table (x := yL_type) B9 (hts _ List.mem_cons_self)
  have hown : s.vm.findClass RL = some m.cls := findClass_of_methodNamed B9.named
  have hlocks := B9.notSynchronized
  subst hsz
  have hD := hD0.self (sz := s.heap.size)
  generalize hAe : va_A [(x, .inr (6, [.ref bf, .ref kb, .ref to, .ref ro, .ref fw, .ref sw, .ref na, .ref wo])), (bf, .inr (1, [.ref bc, .int (nI bn)])), (bc, .inl (cI, 64, .inl (gA b0))), (out, .inl (cL, 1, .inr (.inl o0)))] s.heap.size = A at hD hG ⊢
  have hE := hG.1
  have hA : ∀ q : Nat, s.heap.size ≤ q → A q := fun q h => by rw [← hAe]; exact Or.inr h
  have hS : va_S A s.heap s.heap [] := va_S.rf
  have hl := lv_entry ([.ref x, .long (lN V9), .int (nI n), .ref out]) (n := 6) (Nat.le_of_ble_eq_true rfl)
  rw [lg_entry_eq]
  generalize (lg_sl ([.ref x, .long (lN V9), .int (nI n), .ref out]) ++ List.replicate (6 - (lg_sl ([.ref x, .long (lN V9), .int (nI n), .ref out])).length) Slot.unset).toArray = ls at hl ⊢
  have hl : lv_has ls 6 [(0, .ref x), (1, .long (lN V9)), (3, .int (nI n)), (4, .ref out)] := hl
  refine lv_aload hx hb dL_type_0 (lv_at hl 3 rfl) ?_
  refine lv_iconst (v := nI 0) hx hb dL_type_2 (by decide) ?_
  refine lv_aload_n hx hb dL_type_3 rfl (lv_at hl 0 rfl) ?_
  refine lv_lload_n hx hb dL_type_4 rfl (lv_at hl 1 rfl) ?_
  refine lv_iload_n hx hb dL_type_5 rfl (lv_at hl 2 rfl) ?_
  have hPc := hP.sub (ws' := [(x, .inr (6, [.ref bf, .ref kb, .ref to, .ref ro, .ref fw, .ref sw, .ref na, .ref wo])), (bf, .inr (1, [.ref bc, .int (nI bn)])), (bc, .inl (cI, 64, .inl (gA b0)))]) [0, 1, 2] rfl
  have hDc := hD.sub (ws' := [(x, .inr (6, [.ref bf, .ref kb, .ref to, .ref ro, .ref fw, .ref sw, .ref na, .ref wo])), (bf, .inr (1, [.ref bc, .int (nI bn)])), (bc, .inl (cI, 64, .inl (gA b0)))]) [0, 1, 2] (by decide) rfl
  have hFc := va_free (wc := [(x, .inr (6, [.ref bf, .ref kb, .ref to, .ref ro, .ref fw, .ref sw, .ref na, .ref wo])), (bf, .inr (1, [.ref bc, .int (nI bn)])), (bc, .inl (cI, 64, .inl (gA b0)))]) hD hS hA [0, 1, 2] rfl
  refine va_calli (va_runV (As := [.long (lN V9), .int (nI n)]) (rest := [.int (nI 0), .ref out]) ⟨hx, hb, hml, hown, hts⟩ (c_X7_type_ok l dC dI cI tS s.heap.size x bf kb to ro fw sw na wo bc bn V9 n b0 hV hn1 hn2 hbn) (cwV 2 hts gL_type_X7_type rfl rfl rfl (by decide +kernel) ⟨Nat.le_of_ble_eq_true rfl, Nat.le_of_ble_eq_true rfl⟩) ⟨gPe_blind, va_recv hK hPc (ci := 6) (q0 := 0) rfl rfl, gPe_pre hPc hK hDc (hE.at hS) hFc⟩ rfl rfl hl.1 rfl (lv_room (Nat.le_of_ble_eq_true rfl)) dL_type_6 ⟨Nat.zero_le _, Nat.zero_le _⟩) hS (fun q _ h => hFc q h) hFc (fun r9 u8 t8 H1 locs ht hvm hw hB hz1 hk1 hS => ?_)
  obtain ⟨b9_1, rfl⟩ : ∃ z, z = u8 := ⟨_, rfl⟩
  try dsimp only at hw hB
  obtain ⟨hP, hD⟩ := gB_join (wr := [(out, .inl (cL, 1, .inr (.inl o0)))]) (w2 := [(out, .inl (cL, 1, .inr (.inl o0))), (x, .inr (6, [.ref bf, .ref kb, .ref to, .ref ro, .ref fw, .ref sw, .ref na, .ref wo])), (bf, .inr (1, [.ref bc, .int (nI (bn + n))])), (bc, .inl (cI, 64, .inl (gA b9_1)))]) hP hD [0, 1, 2] [3] rfl rfl (by decide) (by decide) hk1 hFc ht hB rfl
  clear hk1 hz1 ht hB hvm hPc hDc hFc
  generalize H1 = H at hP hS ⊢
  obtain ⟨rfl, hb9⟩ := hw
  refine lv_i2l (v := (nI (bn + n)).toInt64) hx hb dL_type_9 rfl ?_
  refine va_last hx hb hK2 hP hD hS 0 1 rfl rfl (vp_in_nI (by decide) (by decide)) dL_type_10 (fun H locs hP hD hS => ?_)
  obtain ⟨o9_2, ho9_2⟩ : ∃ z : Nat → Int64, z = vp_updL o0 (nI 0).toNatClampNeg ((nI (bn + n)).toInt64) := ⟨_, rfl⟩
  rw [← ho9_2] at hP hD
  have ho9 : o9_2 0 = ((nI (bn + n)).toInt64) := by rw [ho9_2]; exact if_pos rfl
  have hP : va_P (dC, dI) vwCl [(out, .inl (cL, 1, .inr (.inl o9_2))), (x, .inr (6, [.ref bf, .ref kb, .ref to, .ref ro, .ref fw, .ref sw, .ref na, .ref wo])), (bf, .inr (1, [.ref bc, .int (nI (bn + n))])), (bc, .inl (cI, 64, .inl (gA b9_1)))] H := hP
  have hD : va_D A [(out, .inl (cL, 1, .inr (.inl o9_2))), (x, .inr (6, [.ref bf, .ref kb, .ref to, .ref ro, .ref fw, .ref sw, .ref na, .ref wo])), (bf, .inr (1, [.ref bc, .int (nI (bn + n))])), (bc, .inl (cI, 64, .inl (gA b9_1)))] := hD
  refine lv_goto (tgt := 22) hx hb dL_type_11 (by decide) ?_
  refine lv_iconst (v := nI 0) hx hb dL_type_22 (by decide) ?_
  exact W.iret (v := (nI 0)) hx hb hr (fun t ht hW => ⟨⟨_, (b9_1, o9_2), rfl, ⟨rfl, hb9, ho9⟩, gB2_end ht hW (hP.sub [1, 2, 3, 0] rfl) hK2 (hD.sub [1, 2, 3, 0] (by decide) rfl)⟩, hS.F ht⟩) hS.2.2 dL_type_23

set_option maxHeartbeats 4000000 in
set_option maxRecDepth 100000 in
/-- the law calls keep: ok -/
theorem w_L_keep_ok (l : Launch) (hl0 : l.stackTraces = false) (dC : Nat → ClassId) (dI : Nat → Nat → Nat) (cI cL : ClassId) (tS : Nat) (sz : Nat) (x : Nat) (bf : Nat) (kb : Nat) (to : Nat) (ro : Nat) (fw : Nat) (sw : Nat) (na : Nat) (wo : Nat) (bc : Nat) (bn : Nat) (n : Nat) (hn : n ≤ bn) (hb : bn ≤ 64) : Met l yL_keep wsL_keep ({ frames := 1, cells := 0, slots := 0, locals := 21 }) (gPw dC dI cI cL tS [.ref x, .int (nI n)] [(x, .inr (6, [.ref bf, .ref kb, .ref to, .ref ro, .ref fw, .ref sw, .ref na, .ref wo])), (bf, .inr (1, [.ref bc, .int (nI bn)]))] sz) (va_Qi (fun (r7 : Int32) (_u : Unit) => r7 = (nI 0)) (fun _u t => gB2 dC dI cI cL (va_A [(x, .inr (6, [.ref bf, .ref kb, .ref to, .ref ro, .ref fw, .ref sw, .ref na, .ref wo])), (bf, .inr (1, [.ref bc, .int (nI bn)]))] sz) [(x, .inr (6, [.ref bf, .ref kb, .ref to, .ref ro, .ref fw, .ref sw, .ref na, .ref wo])), (bf, .inr (1, [.ref bc, .int (nI n)]))] t) (va_A [(x, .inr (6, [.ref bf, .ref kb, .ref to, .ref ro, .ref fw, .ref sw, .ref na, .ref wo])), (bf, .inr (1, [.ref bc, .int (nI bn)]))] sz)) 0 0 (va_A [(x, .inr (6, [.ref bf, .ref kb, .ref to, .ref ro, .ref fw, .ref sw, .ref na, .ref wo])), (bf, .inr (1, [.ref bc, .int (nI bn)]))] sz) := by
  refine va_MetW (cc := cL_keep) (maxL := 3) (ret := (some .int)) (by decide) rfl ?_
  intro p e s m args below meth c s₁ B9 hml hv
  obtain ⟨rfl, hsz, ⟨hP, hK2, hD0⟩, hG⟩ := hv
  have hK := hK2.sub (tys' := [(cI, .int)]) [0] rfl
  have hx := B9.exec
  have hb := B9.bytes
  have hr := B9.returns
  have hts := atoms_spec (ws := wsL_keep) B9.pre
  have htab := vx_table (x := yL_keep) B9 (hts _ List.mem_cons_self)
  have hown : s.vm.findClass RL = some m.cls := findClass_of_methodNamed B9.named
  have hlocks := B9.notSynchronized
  subst hsz
  have hD := hD0.self (sz := s.heap.size)
  generalize hAe : va_A [(x, .inr (6, [.ref bf, .ref kb, .ref to, .ref ro, .ref fw, .ref sw, .ref na, .ref wo])), (bf, .inr (1, [.ref bc, .int (nI bn)]))] s.heap.size = A at hD hG ⊢
  have hE := hG.1
  have hA : ∀ q : Nat, s.heap.size ≤ q → A q := fun q h => by rw [← hAe]; exact Or.inr h
  have hS : va_S A s.heap s.heap [] := va_S.rf
  have hl := lv_entry ([.ref x, .int (nI n)]) (n := 3) (Nat.le_of_ble_eq_true rfl)
  rw [lg_entry_eq]
  generalize (lg_sl ([.ref x, .int (nI n)]) ++ List.replicate (3 - (lg_sl ([.ref x, .int (nI n)])).length) Slot.unset).toArray = ls at hl ⊢
  have hl : lv_has ls 3 [(0, .ref x), (1, .int (nI n))] := hl
  refine lv_aload_n hx hb dL_keep_0 rfl (lv_at hl 0 rfl) ?_
  refine lv_iload_n hx hb dL_keep_1 rfl (lv_at hl 1 rfl) ?_
  have hPc := hP.sub (ws' := [(x, .inr (6, [.ref bf, .ref kb, .ref to, .ref ro, .ref fw, .ref sw, .ref na, .ref wo])), (bf, .inr (1, [.ref bc, .int (nI bn)]))]) [0, 1] rfl
  have hDc := hD.sub (ws' := [(x, .inr (6, [.ref bf, .ref kb, .ref to, .ref ro, .ref fw, .ref sw, .ref na, .ref wo])), (bf, .inr (1, [.ref bc, .int (nI bn)]))]) [0, 1] (by decide) rfl
  have hFc := va_free (wc := [(x, .inr (6, [.ref bf, .ref kb, .ref to, .ref ro, .ref fw, .ref sw, .ref na, .ref wo])), (bf, .inr (1, [.ref bc, .int (nI bn)]))]) hD hS hA [0, 1] rfl
  refine va_callv (va_runV (As := [.int (nI n)]) (rest := []) ⟨hx, hb, hml, hown, hts⟩ (c_X7_keep_ok l dC dI cI tS s.heap.size x bf kb to ro fw sw na wo bc bn n hn (by omega)) (cwV 1 hts gL_keep_X7_keep rfl rfl rfl (by decide +kernel) ⟨Nat.le_of_ble_eq_true rfl, Nat.le_of_ble_eq_true rfl⟩) ⟨gPe_blind, va_recv hK hPc (ci := 6) (q0 := 0) rfl rfl, gPe_pre hPc hK hDc (hE.at hS) hFc⟩ rfl rfl hl.1 rfl (lv_room (Nat.le_of_ble_eq_true rfl)) dL_keep_2 ⟨Nat.zero_le _, Nat.zero_le _⟩) hS (fun q _ h => hFc q h) hFc (fun u8 t8 H1 locs ht hvm hw hB hz1 hk1 hS => ?_)
  try dsimp only at hw hB
  obtain ⟨hP, hD⟩ := gB_join (wr := []) (w2 := [(x, .inr (6, [.ref bf, .ref kb, .ref to, .ref ro, .ref fw, .ref sw, .ref na, .ref wo])), (bf, .inr (1, [.ref bc, .int (nI n)]))]) hP hD [0, 1] [] rfl rfl (by decide) (by decide) hk1 hFc ht hB rfl
  clear hk1 hz1 ht hB hvm hPc hDc hFc
  generalize H1 = H at hP hS ⊢
  refine lv_goto (tgt := 11) hx hb dL_keep_5 (by decide) ?_
  refine lv_iconst (v := nI 0) hx hb dL_keep_11 (by decide) ?_
  exact W.iret (v := (nI 0)) hx hb hr (fun t ht hW => ⟨⟨_, (), rfl, rfl, gB2_end ht hW hP hK2 hD⟩, hS.F ht⟩) hS.2.2 dL_keep_12

set_option maxHeartbeats 4000000 in
set_option maxRecDepth 100000 in
/-- the law calls typed: ok -/
theorem w_L_typed_ok (l : Launch) (hl0 : l.stackTraces = false) (dC : Nat → ClassId) (dI : Nat → Nat → Nat) (cI cL : ClassId) (tS : Nat) (sz : Nat) (x : Nat) (bf : Nat) (kb : Nat) (to : Nat) (ro : Nat) (fw : Nat) (sw : Nat) (na : Nat) (wo : Nat) (bc : Nat) (bn : Nat) (i : Nat) (b0 : Nat → Nat) (out : Nat) (o0 : Nat → Int64) (hn : i < bn) (hb : bn ≤ 64) : Met l yL_typed wsL_typed ({ frames := 1, cells := 0, slots := 0, locals := 21 }) (gPw dC dI cI cL tS [.ref x, .int (nI i), .ref out] [(x, .inr (6, [.ref bf, .ref kb, .ref to, .ref ro, .ref fw, .ref sw, .ref na, .ref wo])), (bf, .inr (1, [.ref bc, .int (nI bn)])), (bc, .inl (cI, 64, .inl (gA b0))), (out, .inl (cL, 1, .inr (.inl o0)))] sz) (va_Qi (fun (r7 : Int32) (u : (Nat → Int64)) => r7 = (nI 0) ∧ (u 0 = (nI (b0 i)).toInt64)) (fun u t => gB2 dC dI cI cL (va_A [(x, .inr (6, [.ref bf, .ref kb, .ref to, .ref ro, .ref fw, .ref sw, .ref na, .ref wo])), (bf, .inr (1, [.ref bc, .int (nI bn)])), (bc, .inl (cI, 64, .inl (gA b0))), (out, .inl (cL, 1, .inr (.inl o0)))] sz) [(x, .inr (6, [.ref bf, .ref kb, .ref to, .ref ro, .ref fw, .ref sw, .ref na, .ref wo])), (bf, .inr (1, [.ref bc, .int (nI bn)])), (bc, .inl (cI, 64, .inl (gA b0))), (out, .inl (cL, 1, .inr (.inl u)))] t) (va_A [(x, .inr (6, [.ref bf, .ref kb, .ref to, .ref ro, .ref fw, .ref sw, .ref na, .ref wo])), (bf, .inr (1, [.ref bc, .int (nI bn)])), (bc, .inl (cI, 64, .inl (gA b0))), (out, .inl (cL, 1, .inr (.inl o0)))] sz)) 0 0 (va_A [(x, .inr (6, [.ref bf, .ref kb, .ref to, .ref ro, .ref fw, .ref sw, .ref na, .ref wo])), (bf, .inr (1, [.ref bc, .int (nI bn)])), (bc, .inl (cI, 64, .inl (gA b0))), (out, .inl (cL, 1, .inr (.inl o0)))] sz) := by
  refine va_MetW (cc := cL_typed) (maxL := 4) (ret := (some .int)) (by decide) rfl ?_
  intro p e s m args below meth c s₁ B9 hml hv
  obtain ⟨rfl, hsz, ⟨hP, hK2, hD0⟩, hG⟩ := hv
  have hK := hK2.sub (tys' := [(cI, .int)]) [0] rfl
  have hx := B9.exec
  have hb := B9.bytes
  have hr := B9.returns
  have hts := atoms_spec (ws := wsL_typed) B9.pre
  have htab := vx_table (x := yL_typed) B9 (hts _ List.mem_cons_self)
  have hown : s.vm.findClass RL = some m.cls := findClass_of_methodNamed B9.named
  have hlocks := B9.notSynchronized
  subst hsz
  have hD := hD0.self (sz := s.heap.size)
  generalize hAe : va_A [(x, .inr (6, [.ref bf, .ref kb, .ref to, .ref ro, .ref fw, .ref sw, .ref na, .ref wo])), (bf, .inr (1, [.ref bc, .int (nI bn)])), (bc, .inl (cI, 64, .inl (gA b0))), (out, .inl (cL, 1, .inr (.inl o0)))] s.heap.size = A at hD hG ⊢
  have hE := hG.1
  have hA : ∀ q : Nat, s.heap.size ≤ q → A q := fun q h => by rw [← hAe]; exact Or.inr h
  have hS : va_S A s.heap s.heap [] := va_S.rf
  have hl := lv_entry ([.ref x, .int (nI i), .ref out]) (n := 4) (Nat.le_of_ble_eq_true rfl)
  rw [lg_entry_eq]
  generalize (lg_sl ([.ref x, .int (nI i), .ref out]) ++ List.replicate (4 - (lg_sl ([.ref x, .int (nI i), .ref out])).length) Slot.unset).toArray = ls at hl ⊢
  have hl : lv_has ls 4 [(0, .ref x), (1, .int (nI i)), (2, .ref out)] := hl
  refine lv_aload_n hx hb dL_typed_0 rfl (lv_at hl 2 rfl) ?_
  refine lv_iconst (v := nI 0) hx hb dL_typed_1 (by decide) ?_
  refine lv_aload_n hx hb dL_typed_2 rfl (lv_at hl 0 rfl) ?_
  refine lv_iload_n hx hb dL_typed_3 rfl (lv_at hl 1 rfl) ?_
  have hPc := hP.sub (ws' := [(x, .inr (6, [.ref bf, .ref kb, .ref to, .ref ro, .ref fw, .ref sw, .ref na, .ref wo])), (bf, .inr (1, [.ref bc, .int (nI bn)])), (bc, .inl (cI, 64, .inl (gA b0)))]) [0, 1, 2] rfl
  have hDc := hD.sub (ws' := [(x, .inr (6, [.ref bf, .ref kb, .ref to, .ref ro, .ref fw, .ref sw, .ref na, .ref wo])), (bf, .inr (1, [.ref bc, .int (nI bn)])), (bc, .inl (cI, 64, .inl (gA b0)))]) [0, 1, 2] (by decide) rfl
  have hFc := va_free (wc := [(x, .inr (6, [.ref bf, .ref kb, .ref to, .ref ro, .ref fw, .ref sw, .ref na, .ref wo])), (bf, .inr (1, [.ref bc, .int (nI bn)])), (bc, .inl (cI, 64, .inl (gA b0)))]) hD hS hA [0, 1, 2] rfl
  refine va_calli (va_runV (As := [.int (nI i)]) (rest := [.int (nI 0), .ref out]) ⟨hx, hb, hml, hown, hts⟩ (c_X7_typed_ok l dC dI cI tS s.heap.size x bf kb to ro fw sw na wo bc bn i b0 hn (by omega)) (cwV 1 hts gL_typed_X7_typed rfl rfl rfl (by decide +kernel) ⟨Nat.le_of_ble_eq_true rfl, Nat.le_of_ble_eq_true rfl⟩) ⟨gPe_blind, va_recv hK hPc (ci := 6) (q0 := 0) rfl rfl, gPe_pre hPc hK hDc (hE.at hS) hFc⟩ rfl rfl hl.1 rfl (lv_room (Nat.le_of_ble_eq_true rfl)) dL_typed_4 ⟨Nat.zero_le _, Nat.zero_le _⟩) hS (fun q _ h => hFc q h) hFc (fun r9 u8 t8 H1 locs ht hvm hw hB hz1 hk1 hS => ?_)
  try dsimp only at hw hB
  obtain ⟨hP, hD⟩ := gB_join (wr := [(out, .inl (cL, 1, .inr (.inl o0)))]) (w2 := [(out, .inl (cL, 1, .inr (.inl o0))), (x, .inr (6, [.ref bf, .ref kb, .ref to, .ref ro, .ref fw, .ref sw, .ref na, .ref wo])), (bf, .inr (1, [.ref bc, .int (nI bn)])), (bc, .inl (cI, 64, .inl (gA b0)))]) hP hD [0, 1, 2] [3] rfl rfl (by decide) (by decide) hk1 hFc ht hB rfl
  clear hk1 hz1 ht hB hvm hPc hDc hFc
  generalize H1 = H at hP hS ⊢
  subst hw
  refine lv_i2l (v := (nI (b0 i)).toInt64) hx hb dL_typed_7 rfl ?_
  refine va_last hx hb hK2 hP hD hS 0 1 rfl rfl (vp_in_nI (by decide) (by decide)) dL_typed_8 (fun H locs hP hD hS => ?_)
  obtain ⟨o9_2, ho9_2⟩ : ∃ z : Nat → Int64, z = vp_updL o0 (nI 0).toNatClampNeg ((nI (b0 i)).toInt64) := ⟨_, rfl⟩
  rw [← ho9_2] at hP hD
  have ho9 : o9_2 0 = ((nI (b0 i)).toInt64) := by rw [ho9_2]; exact if_pos rfl
  have hP : va_P (dC, dI) vwCl [(out, .inl (cL, 1, .inr (.inl o9_2))), (x, .inr (6, [.ref bf, .ref kb, .ref to, .ref ro, .ref fw, .ref sw, .ref na, .ref wo])), (bf, .inr (1, [.ref bc, .int (nI bn)])), (bc, .inl (cI, 64, .inl (gA b0)))] H := hP
  have hD : va_D A [(out, .inl (cL, 1, .inr (.inl o9_2))), (x, .inr (6, [.ref bf, .ref kb, .ref to, .ref ro, .ref fw, .ref sw, .ref na, .ref wo])), (bf, .inr (1, [.ref bc, .int (nI bn)])), (bc, .inl (cI, 64, .inl (gA b0)))] := hD
  refine lv_goto (tgt := 15) hx hb dL_typed_9 (by decide) ?_
  refine lv_iconst (v := nI 0) hx hb dL_typed_15 (by decide) ?_
  exact W.iret (v := (nI 0)) hx hb hr (fun t ht hW => ⟨⟨_, (o9_2), rfl, ⟨rfl, ho9⟩, gB2_end ht hW (hP.sub [1, 2, 3, 0] rfl) hK2 (hD.sub [1, 2, 3, 0] (by decide) rfl)⟩, hS.F ht⟩) hS.2.2 dL_typed_16

set_option maxHeartbeats 4000000 in
set_option maxRecDepth 100000 in
/-- the law calls key: ok -/
theorem w_L_key_ok (l : Launch) (hl0 : l.stackTraces = false) (dC : Nat → ClassId) (dI : Nat → Nat → Nat) (cI cL : ClassId) (tS : Nat) (sz : Nat) (x : Nat) (bf : Nat) (kb : Nat) (to : Nat) (ro : Nat) (fw : Nat) (sw : Nat) (na : Nat) (wo : Nat) (bc : Nat) (bn : Nat) (kc : Nat) (kn : Nat) (ci : Nat) (tw : Nat) (stt : Nat) (chd : Nat) (spr : Nat) (sc : Nat) (mv : Nat) (ci2 : Nat) (tu : Nat) (sc2 : Nat) (mv2 : Nat) (iw : Nat) (rp : Nat) (aw : Nat) (lf : Nat) (rt : Nat) (r1 : Nat) (r2 : Nat) (b0 : Nat → Nat) (k0 : Nat → Nat) (w1 : Nat → Nat) (w2 : Nat → Nat) (out : Nat) (o0 : Nat → Int64) (hn : bn = 16 ∨ bn = 24 ∨ bn = 32) (hb0 : ∀ j, j < 64 → b0 j < 256) : Met l yL_key wsL_key ({ frames := 5, cells := 0, slots := 0, locals := 107 }) (gPw dC dI cI cL tS [.ref x, .ref out] [(x, .inr (6, [.ref bf, .ref kb, .ref to, .ref ro, .ref fw, .ref sw, .ref na, .ref wo])), (bf, .inr (1, [.ref bc, .int (nI bn)])), (bc, .inl (cI, 64, .inl (gA b0))), (kb, .inr (1, [.ref kc, .int (nI kn)])), (kc, .inl (cI, 64, .inl (gA k0))), (fw, .inr (2, [.ref ci, .ref tw, .ref stt, .ref chd, .ref spr, .int (nI iw), .int (nI rp), .int (nI aw)])), (ci, .inr (0, [.ref sc, .ref mv, .int (nI r1)])), (sc, .inl (cI, 60, .inl (gA w1))), (sw, .inr (5, [.ref ci2, .ref tu, .int (nI lf), .int (nI rt)])), (ci2, .inr (0, [.ref sc2, .ref mv2, .int (nI r2)])), (sc2, .inl (cI, 60, .inl (gA w2))), (out, .inl (cL, 1, .inr (.inl o0)))] sz) (va_Qi (fun (r7 : Int32) (u : (Nat → Nat) × (Nat → Nat) × (Nat → Nat) × (Nat → Int64)) => r7 = (nI 0) ∧ (∀ q, q < 64 → u.1 q = if q < bn then b0 q else 0) ∧ (∀ k, k < 4 * (bn / 4 + 7) → u.2.1 k = pkf (ksS (keyK 0 u.1 (bn / 4)) (bn / 4) (3 * (bn / 4) + 28)) k) ∧ (∀ k, k < 4 * (bn / 4 + 7) → u.2.2.1 k = pkf (ksS (keyK 1 u.1 (bn / 4)) (bn / 4) (3 * (bn / 4) + 28)) k) ∧ (u.2.2.2 0 = (nI (bn / 4 + 6)).toInt64)) (fun u t => gB2 dC dI cI cL (va_A [(x, .inr (6, [.ref bf, .ref kb, .ref to, .ref ro, .ref fw, .ref sw, .ref na, .ref wo])), (bf, .inr (1, [.ref bc, .int (nI bn)])), (bc, .inl (cI, 64, .inl (gA b0))), (kb, .inr (1, [.ref kc, .int (nI kn)])), (kc, .inl (cI, 64, .inl (gA k0))), (fw, .inr (2, [.ref ci, .ref tw, .ref stt, .ref chd, .ref spr, .int (nI iw), .int (nI rp), .int (nI aw)])), (ci, .inr (0, [.ref sc, .ref mv, .int (nI r1)])), (sc, .inl (cI, 60, .inl (gA w1))), (sw, .inr (5, [.ref ci2, .ref tu, .int (nI lf), .int (nI rt)])), (ci2, .inr (0, [.ref sc2, .ref mv2, .int (nI r2)])), (sc2, .inl (cI, 60, .inl (gA w2))), (out, .inl (cL, 1, .inr (.inl o0)))] sz) [(x, .inr (6, [.ref bf, .ref kb, .ref to, .ref ro, .ref fw, .ref sw, .ref na, .ref wo])), (bf, .inr (1, [.ref bc, .int (nI 0)])), (bc, .inl (cI, 64, .inl (gA b0))), (kb, .inr (1, [.ref kc, .int (nI bn)])), (kc, .inl (cI, 64, .inl (gA u.1))), (fw, .inr (2, [.ref ci, .ref tw, .ref stt, .ref chd, .ref spr, .int (nI iw), .int (nI rp), .int (nI aw)])), (ci, .inr (0, [.ref sc, .ref mv, .int (nI (bn / 4 + 6))])), (sc, .inl (cI, 60, .inl (gA u.2.1))), (sw, .inr (5, [.ref ci2, .ref tu, .int (nI lf), .int (nI rt)])), (ci2, .inr (0, [.ref sc2, .ref mv2, .int (nI (bn / 4 + 6))])), (sc2, .inl (cI, 60, .inl (gA u.2.2.1))), (out, .inl (cL, 1, .inr (.inl u.2.2.2)))] t) (va_A [(x, .inr (6, [.ref bf, .ref kb, .ref to, .ref ro, .ref fw, .ref sw, .ref na, .ref wo])), (bf, .inr (1, [.ref bc, .int (nI bn)])), (bc, .inl (cI, 64, .inl (gA b0))), (kb, .inr (1, [.ref kc, .int (nI kn)])), (kc, .inl (cI, 64, .inl (gA k0))), (fw, .inr (2, [.ref ci, .ref tw, .ref stt, .ref chd, .ref spr, .int (nI iw), .int (nI rp), .int (nI aw)])), (ci, .inr (0, [.ref sc, .ref mv, .int (nI r1)])), (sc, .inl (cI, 60, .inl (gA w1))), (sw, .inr (5, [.ref ci2, .ref tu, .int (nI lf), .int (nI rt)])), (ci2, .inr (0, [.ref sc2, .ref mv2, .int (nI r2)])), (sc2, .inl (cI, 60, .inl (gA w2))), (out, .inl (cL, 1, .inr (.inl o0)))] sz)) 0 0 (va_A [(x, .inr (6, [.ref bf, .ref kb, .ref to, .ref ro, .ref fw, .ref sw, .ref na, .ref wo])), (bf, .inr (1, [.ref bc, .int (nI bn)])), (bc, .inl (cI, 64, .inl (gA b0))), (kb, .inr (1, [.ref kc, .int (nI kn)])), (kc, .inl (cI, 64, .inl (gA k0))), (fw, .inr (2, [.ref ci, .ref tw, .ref stt, .ref chd, .ref spr, .int (nI iw), .int (nI rp), .int (nI aw)])), (ci, .inr (0, [.ref sc, .ref mv, .int (nI r1)])), (sc, .inl (cI, 60, .inl (gA w1))), (sw, .inr (5, [.ref ci2, .ref tu, .int (nI lf), .int (nI rt)])), (ci2, .inr (0, [.ref sc2, .ref mv2, .int (nI r2)])), (sc2, .inl (cI, 60, .inl (gA w2))), (out, .inl (cL, 1, .inr (.inl o0)))] sz) := by
  refine va_MetW (cc := cL_key) (maxL := 3) (ret := (some .int)) (by decide) rfl ?_
  intro p e s m args below meth c s₁ B9 hml hv
  obtain ⟨rfl, hsz, ⟨hP, hK2, hD0⟩, hG⟩ := hv
  have hK := hK2.sub (tys' := [(cI, .int)]) [0] rfl
  have hx := B9.exec
  have hb := B9.bytes
  have hr := B9.returns
  have hts := atoms_spec (ws := wsL_key) B9.pre
  have htab := vx_table (x := yL_key) B9 (hts _ List.mem_cons_self)
  have hown : s.vm.findClass RL = some m.cls := findClass_of_methodNamed B9.named
  have hlocks := B9.notSynchronized
  subst hsz
  have hD := hD0.self (sz := s.heap.size)
  generalize hAe : va_A [(x, .inr (6, [.ref bf, .ref kb, .ref to, .ref ro, .ref fw, .ref sw, .ref na, .ref wo])), (bf, .inr (1, [.ref bc, .int (nI bn)])), (bc, .inl (cI, 64, .inl (gA b0))), (kb, .inr (1, [.ref kc, .int (nI kn)])), (kc, .inl (cI, 64, .inl (gA k0))), (fw, .inr (2, [.ref ci, .ref tw, .ref stt, .ref chd, .ref spr, .int (nI iw), .int (nI rp), .int (nI aw)])), (ci, .inr (0, [.ref sc, .ref mv, .int (nI r1)])), (sc, .inl (cI, 60, .inl (gA w1))), (sw, .inr (5, [.ref ci2, .ref tu, .int (nI lf), .int (nI rt)])), (ci2, .inr (0, [.ref sc2, .ref mv2, .int (nI r2)])), (sc2, .inl (cI, 60, .inl (gA w2))), (out, .inl (cL, 1, .inr (.inl o0)))] s.heap.size = A at hD hG ⊢
  have hE := hG.1
  have hA : ∀ q : Nat, s.heap.size ≤ q → A q := fun q h => by rw [← hAe]; exact Or.inr h
  have hS : va_S A s.heap s.heap [] := va_S.rf
  have hl := lv_entry ([.ref x, .ref out]) (n := 3) (Nat.le_of_ble_eq_true rfl)
  rw [lg_entry_eq]
  generalize (lg_sl ([.ref x, .ref out]) ++ List.replicate (3 - (lg_sl ([.ref x, .ref out])).length) Slot.unset).toArray = ls at hl ⊢
  have hl : lv_has ls 3 [(0, .ref x), (1, .ref out)] := hl
  refine lv_aload_n hx hb dL_key_0 rfl (lv_at hl 1 rfl) ?_
  refine lv_iconst (v := nI 0) hx hb dL_key_1 (by decide) ?_
  refine lv_aload_n hx hb dL_key_2 rfl (lv_at hl 0 rfl) ?_
  have hPc := hP.sub (ws' := [(x, .inr (6, [.ref bf, .ref kb, .ref to, .ref ro, .ref fw, .ref sw, .ref na, .ref wo])), (bf, .inr (1, [.ref bc, .int (nI bn)])), (bc, .inl (cI, 64, .inl (gA b0))), (kb, .inr (1, [.ref kc, .int (nI kn)])), (kc, .inl (cI, 64, .inl (gA k0))), (fw, .inr (2, [.ref ci, .ref tw, .ref stt, .ref chd, .ref spr, .int (nI iw), .int (nI rp), .int (nI aw)])), (ci, .inr (0, [.ref sc, .ref mv, .int (nI r1)])), (sc, .inl (cI, 60, .inl (gA w1))), (sw, .inr (5, [.ref ci2, .ref tu, .int (nI lf), .int (nI rt)])), (ci2, .inr (0, [.ref sc2, .ref mv2, .int (nI r2)])), (sc2, .inl (cI, 60, .inl (gA w2)))]) [0, 1, 2, 3, 4, 5, 6, 7, 8, 9, 10] rfl
  have hDc := hD.sub (ws' := [(x, .inr (6, [.ref bf, .ref kb, .ref to, .ref ro, .ref fw, .ref sw, .ref na, .ref wo])), (bf, .inr (1, [.ref bc, .int (nI bn)])), (bc, .inl (cI, 64, .inl (gA b0))), (kb, .inr (1, [.ref kc, .int (nI kn)])), (kc, .inl (cI, 64, .inl (gA k0))), (fw, .inr (2, [.ref ci, .ref tw, .ref stt, .ref chd, .ref spr, .int (nI iw), .int (nI rp), .int (nI aw)])), (ci, .inr (0, [.ref sc, .ref mv, .int (nI r1)])), (sc, .inl (cI, 60, .inl (gA w1))), (sw, .inr (5, [.ref ci2, .ref tu, .int (nI lf), .int (nI rt)])), (ci2, .inr (0, [.ref sc2, .ref mv2, .int (nI r2)])), (sc2, .inl (cI, 60, .inl (gA w2)))]) [0, 1, 2, 3, 4, 5, 6, 7, 8, 9, 10] (by decide) rfl
  have hFc := va_free (wc := [(x, .inr (6, [.ref bf, .ref kb, .ref to, .ref ro, .ref fw, .ref sw, .ref na, .ref wo])), (bf, .inr (1, [.ref bc, .int (nI bn)])), (bc, .inl (cI, 64, .inl (gA b0))), (kb, .inr (1, [.ref kc, .int (nI kn)])), (kc, .inl (cI, 64, .inl (gA k0))), (fw, .inr (2, [.ref ci, .ref tw, .ref stt, .ref chd, .ref spr, .int (nI iw), .int (nI rp), .int (nI aw)])), (ci, .inr (0, [.ref sc, .ref mv, .int (nI r1)])), (sc, .inl (cI, 60, .inl (gA w1))), (sw, .inr (5, [.ref ci2, .ref tu, .int (nI lf), .int (nI rt)])), (ci2, .inr (0, [.ref sc2, .ref mv2, .int (nI r2)])), (sc2, .inl (cI, 60, .inl (gA w2)))]) hD hS hA [0, 1, 2, 3, 4, 5, 6, 7, 8, 9, 10] rfl
  refine va_calli (va_runV (As := []) (rest := [.int (nI 0), .ref out]) ⟨hx, hb, hml, hown, hts⟩ (c_X7_key_ok l dC dI cI tS s.heap.size x bf kb to ro fw sw na wo bc bn kc kn ci tw stt chd spr sc mv ci2 tu sc2 mv2 iw rp aw lf rt r1 r2 b0 k0 w1 w2 hn hb0) (cwV 0 hts gL_key_X7_key rfl rfl rfl (by decide +kernel) ⟨Nat.le_of_ble_eq_true rfl, Nat.le_of_ble_eq_true rfl⟩) ⟨gPe_blind, va_recv hK hPc (ci := 6) (q0 := 0) rfl rfl, gPe_pre hPc hK hDc (hE.at hS) hFc⟩ rfl rfl hl.1 rfl (lv_room (Nat.le_of_ble_eq_true rfl)) dL_key_3 ⟨Nat.zero_le _, Nat.zero_le _⟩) hS (fun q _ h => hFc q h) hFc (fun r9 u8 t8 H1 locs ht hvm hw hB hz1 hk1 hS => ?_)
  obtain ⟨k9_1, w8_1, w9_1⟩ := u8
  try dsimp only at hw hB
  obtain ⟨hP, hD⟩ := gB_join (wr := [(out, .inl (cL, 1, .inr (.inl o0)))]) (w2 := [(out, .inl (cL, 1, .inr (.inl o0))), (x, .inr (6, [.ref bf, .ref kb, .ref to, .ref ro, .ref fw, .ref sw, .ref na, .ref wo])), (bf, .inr (1, [.ref bc, .int (nI 0)])), (bc, .inl (cI, 64, .inl (gA b0))), (kb, .inr (1, [.ref kc, .int (nI bn)])), (kc, .inl (cI, 64, .inl (gA k9_1))), (fw, .inr (2, [.ref ci, .ref tw, .ref stt, .ref chd, .ref spr, .int (nI iw), .int (nI rp), .int (nI aw)])), (ci, .inr (0, [.ref sc, .ref mv, .int (nI (bn / 4 + 6))])), (sc, .inl (cI, 60, .inl (gA w8_1))), (sw, .inr (5, [.ref ci2, .ref tu, .int (nI lf), .int (nI rt)])), (ci2, .inr (0, [.ref sc2, .ref mv2, .int (nI (bn / 4 + 6))])), (sc2, .inl (cI, 60, .inl (gA w9_1)))]) hP hD [0, 1, 2, 3, 4, 5, 6, 7, 8, 9, 10] [11] rfl rfl (by decide) (by decide) hk1 hFc ht hB rfl
  clear hk1 hz1 ht hB hvm hPc hDc hFc
  generalize H1 = H at hP hS ⊢
  obtain ⟨rfl, hk9, hk1, hk2⟩ := hw
  refine lv_i2l (v := (nI (bn / 4 + 6)).toInt64) hx hb dL_key_6 rfl ?_
  refine va_last hx hb hK2 hP hD hS 0 1 rfl rfl (vp_in_nI (by decide) (by decide)) dL_key_7 (fun H locs hP hD hS => ?_)
  obtain ⟨o9_2, ho9_2⟩ : ∃ z : Nat → Int64, z = vp_updL o0 (nI 0).toNatClampNeg ((nI (bn / 4 + 6)).toInt64) := ⟨_, rfl⟩
  rw [← ho9_2] at hP hD
  have ho9 : o9_2 0 = ((nI (bn / 4 + 6)).toInt64) := by rw [ho9_2]; exact if_pos rfl
  have hP : va_P (dC, dI) vwCl [(out, .inl (cL, 1, .inr (.inl o9_2))), (x, .inr (6, [.ref bf, .ref kb, .ref to, .ref ro, .ref fw, .ref sw, .ref na, .ref wo])), (bf, .inr (1, [.ref bc, .int (nI 0)])), (bc, .inl (cI, 64, .inl (gA b0))), (kb, .inr (1, [.ref kc, .int (nI bn)])), (kc, .inl (cI, 64, .inl (gA k9_1))), (fw, .inr (2, [.ref ci, .ref tw, .ref stt, .ref chd, .ref spr, .int (nI iw), .int (nI rp), .int (nI aw)])), (ci, .inr (0, [.ref sc, .ref mv, .int (nI (bn / 4 + 6))])), (sc, .inl (cI, 60, .inl (gA w8_1))), (sw, .inr (5, [.ref ci2, .ref tu, .int (nI lf), .int (nI rt)])), (ci2, .inr (0, [.ref sc2, .ref mv2, .int (nI (bn / 4 + 6))])), (sc2, .inl (cI, 60, .inl (gA w9_1)))] H := hP
  have hD : va_D A [(out, .inl (cL, 1, .inr (.inl o9_2))), (x, .inr (6, [.ref bf, .ref kb, .ref to, .ref ro, .ref fw, .ref sw, .ref na, .ref wo])), (bf, .inr (1, [.ref bc, .int (nI 0)])), (bc, .inl (cI, 64, .inl (gA b0))), (kb, .inr (1, [.ref kc, .int (nI bn)])), (kc, .inl (cI, 64, .inl (gA k9_1))), (fw, .inr (2, [.ref ci, .ref tw, .ref stt, .ref chd, .ref spr, .int (nI iw), .int (nI rp), .int (nI aw)])), (ci, .inr (0, [.ref sc, .ref mv, .int (nI (bn / 4 + 6))])), (sc, .inl (cI, 60, .inl (gA w8_1))), (sw, .inr (5, [.ref ci2, .ref tu, .int (nI lf), .int (nI rt)])), (ci2, .inr (0, [.ref sc2, .ref mv2, .int (nI (bn / 4 + 6))])), (sc2, .inl (cI, 60, .inl (gA w9_1)))] := hD
  refine lv_goto (tgt := 14) hx hb dL_key_8 (by decide) ?_
  refine lv_iconst (v := nI 0) hx hb dL_key_14 (by decide) ?_
  exact W.iret (v := (nI 0)) hx hb hr (fun t ht hW => ⟨⟨_, (k9_1, w8_1, w9_1, o9_2), rfl, ⟨rfl, hk9, hk1, hk2, ho9⟩, gB2_end ht hW (hP.sub [1, 2, 3, 4, 5, 6, 7, 8, 9, 10, 11, 0] rfl) hK2 (hD.sub [1, 2, 3, 4, 5, 6, 7, 8, 9, 10, 11, 0] (by decide) rfl)⟩, hS.F ht⟩) hS.2.2 dL_key_15

set_option maxHeartbeats 4000000 in
set_option maxRecDepth 100000 in
/-- the law calls tweak: ok -/
theorem w_L_tweak_ok (l : Launch) (hl0 : l.stackTraces = false) (dC : Nat → ClassId) (dI : Nat → Nat → Nat) (cI cL : ClassId) (tS : Nat) (sz : Nat) (x : Nat) (bf : Nat) (kb : Nat) (to : Nat) (ro : Nat) (fw : Nat) (sw : Nat) (na : Nat) (wo : Nat) (bc : Nat) (bn : Nat) (tc : Nat) (tn : Nat) (b0 : Nat → Nat) (t0 : Nat → Nat) (out : Nat) (o0 : Nat → Int64) (hn : bn ≤ 32) : Met l yL_tweak wsL_tweak ({ frames := 2, cells := 0, slots := 0, locals := 42 }) (gPw dC dI cI cL tS [.ref x, .ref out] [(x, .inr (6, [.ref bf, .ref kb, .ref to, .ref ro, .ref fw, .ref sw, .ref na, .ref wo])), (bf, .inr (1, [.ref bc, .int (nI bn)])), (bc, .inl (cI, 64, .inl (gA b0))), (to, .inr (1, [.ref tc, .int (nI tn)])), (tc, .inl (cI, 64, .inl (gA t0))), (out, .inl (cL, 1, .inr (.inl o0)))] sz) (va_Qi (fun (r7 : Int32) (u : (Nat → Nat) × (Nat → Int64)) => r7 = (nI 0) ∧ (∀ q, q < 64 → u.1 q = if q < bn then b0 q else 0) ∧ (u.2 0 = (nI (bn)).toInt64)) (fun u t => gB2 dC dI cI cL (va_A [(x, .inr (6, [.ref bf, .ref kb, .ref to, .ref ro, .ref fw, .ref sw, .ref na, .ref wo])), (bf, .inr (1, [.ref bc, .int (nI bn)])), (bc, .inl (cI, 64, .inl (gA b0))), (to, .inr (1, [.ref tc, .int (nI tn)])), (tc, .inl (cI, 64, .inl (gA t0))), (out, .inl (cL, 1, .inr (.inl o0)))] sz) [(x, .inr (6, [.ref bf, .ref kb, .ref to, .ref ro, .ref fw, .ref sw, .ref na, .ref wo])), (bf, .inr (1, [.ref bc, .int (nI 0)])), (bc, .inl (cI, 64, .inl (gA b0))), (to, .inr (1, [.ref tc, .int (nI bn)])), (tc, .inl (cI, 64, .inl (gA u.1))), (out, .inl (cL, 1, .inr (.inl u.2)))] t) (va_A [(x, .inr (6, [.ref bf, .ref kb, .ref to, .ref ro, .ref fw, .ref sw, .ref na, .ref wo])), (bf, .inr (1, [.ref bc, .int (nI bn)])), (bc, .inl (cI, 64, .inl (gA b0))), (to, .inr (1, [.ref tc, .int (nI tn)])), (tc, .inl (cI, 64, .inl (gA t0))), (out, .inl (cL, 1, .inr (.inl o0)))] sz)) 0 0 (va_A [(x, .inr (6, [.ref bf, .ref kb, .ref to, .ref ro, .ref fw, .ref sw, .ref na, .ref wo])), (bf, .inr (1, [.ref bc, .int (nI bn)])), (bc, .inl (cI, 64, .inl (gA b0))), (to, .inr (1, [.ref tc, .int (nI tn)])), (tc, .inl (cI, 64, .inl (gA t0))), (out, .inl (cL, 1, .inr (.inl o0)))] sz) := by
  refine va_MetW (cc := cL_tweak) (maxL := 3) (ret := (some .int)) (by decide) rfl ?_
  intro p e s m args below meth c s₁ B9 hml hv
  obtain ⟨rfl, hsz, ⟨hP, hK2, hD0⟩, hG⟩ := hv
  have hK := hK2.sub (tys' := [(cI, .int)]) [0] rfl
  have hx := B9.exec
  have hb := B9.bytes
  have hr := B9.returns
  have hts := atoms_spec (ws := wsL_tweak) B9.pre
  have htab := vx_table (x := yL_tweak) B9 (hts _ List.mem_cons_self)
  have hown : s.vm.findClass RL = some m.cls := findClass_of_methodNamed B9.named
  have hlocks := B9.notSynchronized
  subst hsz
  have hD := hD0.self (sz := s.heap.size)
  generalize hAe : va_A [(x, .inr (6, [.ref bf, .ref kb, .ref to, .ref ro, .ref fw, .ref sw, .ref na, .ref wo])), (bf, .inr (1, [.ref bc, .int (nI bn)])), (bc, .inl (cI, 64, .inl (gA b0))), (to, .inr (1, [.ref tc, .int (nI tn)])), (tc, .inl (cI, 64, .inl (gA t0))), (out, .inl (cL, 1, .inr (.inl o0)))] s.heap.size = A at hD hG ⊢
  have hE := hG.1
  have hA : ∀ q : Nat, s.heap.size ≤ q → A q := fun q h => by rw [← hAe]; exact Or.inr h
  have hS : va_S A s.heap s.heap [] := va_S.rf
  have hl := lv_entry ([.ref x, .ref out]) (n := 3) (Nat.le_of_ble_eq_true rfl)
  rw [lg_entry_eq]
  generalize (lg_sl ([.ref x, .ref out]) ++ List.replicate (3 - (lg_sl ([.ref x, .ref out])).length) Slot.unset).toArray = ls at hl ⊢
  have hl : lv_has ls 3 [(0, .ref x), (1, .ref out)] := hl
  refine lv_aload_n hx hb dL_tweak_0 rfl (lv_at hl 1 rfl) ?_
  refine lv_iconst (v := nI 0) hx hb dL_tweak_1 (by decide) ?_
  refine lv_aload_n hx hb dL_tweak_2 rfl (lv_at hl 0 rfl) ?_
  have hPc := hP.sub (ws' := [(x, .inr (6, [.ref bf, .ref kb, .ref to, .ref ro, .ref fw, .ref sw, .ref na, .ref wo])), (bf, .inr (1, [.ref bc, .int (nI bn)])), (bc, .inl (cI, 64, .inl (gA b0))), (to, .inr (1, [.ref tc, .int (nI tn)])), (tc, .inl (cI, 64, .inl (gA t0)))]) [0, 1, 2, 3, 4] rfl
  have hDc := hD.sub (ws' := [(x, .inr (6, [.ref bf, .ref kb, .ref to, .ref ro, .ref fw, .ref sw, .ref na, .ref wo])), (bf, .inr (1, [.ref bc, .int (nI bn)])), (bc, .inl (cI, 64, .inl (gA b0))), (to, .inr (1, [.ref tc, .int (nI tn)])), (tc, .inl (cI, 64, .inl (gA t0)))]) [0, 1, 2, 3, 4] (by decide) rfl
  have hFc := va_free (wc := [(x, .inr (6, [.ref bf, .ref kb, .ref to, .ref ro, .ref fw, .ref sw, .ref na, .ref wo])), (bf, .inr (1, [.ref bc, .int (nI bn)])), (bc, .inl (cI, 64, .inl (gA b0))), (to, .inr (1, [.ref tc, .int (nI tn)])), (tc, .inl (cI, 64, .inl (gA t0)))]) hD hS hA [0, 1, 2, 3, 4] rfl
  refine va_calli (va_runV (As := []) (rest := [.int (nI 0), .ref out]) ⟨hx, hb, hml, hown, hts⟩ (c_X7_tweak_ok l dC dI cI tS s.heap.size x bf kb to ro fw sw na wo bc bn tc tn b0 t0 hn) (cwV 0 hts gL_tweak_X7_tweak rfl rfl rfl (by decide +kernel) ⟨Nat.le_of_ble_eq_true rfl, Nat.le_of_ble_eq_true rfl⟩) ⟨gPe_blind, va_recv hK hPc (ci := 6) (q0 := 0) rfl rfl, gPe_pre hPc hK hDc (hE.at hS) hFc⟩ rfl rfl hl.1 rfl (lv_room (Nat.le_of_ble_eq_true rfl)) dL_tweak_3 ⟨Nat.zero_le _, Nat.zero_le _⟩) hS (fun q _ h => hFc q h) hFc (fun r9 u8 t8 H1 locs ht hvm hw hB hz1 hk1 hS => ?_)
  obtain ⟨t9_1, rfl⟩ : ∃ z, z = u8 := ⟨_, rfl⟩
  try dsimp only at hw hB
  obtain ⟨hP, hD⟩ := gB_join (wr := [(out, .inl (cL, 1, .inr (.inl o0)))]) (w2 := [(out, .inl (cL, 1, .inr (.inl o0))), (x, .inr (6, [.ref bf, .ref kb, .ref to, .ref ro, .ref fw, .ref sw, .ref na, .ref wo])), (bf, .inr (1, [.ref bc, .int (nI 0)])), (bc, .inl (cI, 64, .inl (gA b0))), (to, .inr (1, [.ref tc, .int (nI bn)])), (tc, .inl (cI, 64, .inl (gA t9_1)))]) hP hD [0, 1, 2, 3, 4] [5] rfl rfl (by decide) (by decide) hk1 hFc ht hB rfl
  clear hk1 hz1 ht hB hvm hPc hDc hFc
  generalize H1 = H at hP hS ⊢
  obtain ⟨rfl, ht9⟩ := hw
  refine lv_i2l (v := (nI bn).toInt64) hx hb dL_tweak_6 rfl ?_
  refine va_last hx hb hK2 hP hD hS 0 1 rfl rfl (vp_in_nI (by decide) (by decide)) dL_tweak_7 (fun H locs hP hD hS => ?_)
  obtain ⟨o9_2, ho9_2⟩ : ∃ z : Nat → Int64, z = vp_updL o0 (nI 0).toNatClampNeg ((nI bn).toInt64) := ⟨_, rfl⟩
  rw [← ho9_2] at hP hD
  have ho9 : o9_2 0 = ((nI bn).toInt64) := by rw [ho9_2]; exact if_pos rfl
  have hP : va_P (dC, dI) vwCl [(out, .inl (cL, 1, .inr (.inl o9_2))), (x, .inr (6, [.ref bf, .ref kb, .ref to, .ref ro, .ref fw, .ref sw, .ref na, .ref wo])), (bf, .inr (1, [.ref bc, .int (nI 0)])), (bc, .inl (cI, 64, .inl (gA b0))), (to, .inr (1, [.ref tc, .int (nI bn)])), (tc, .inl (cI, 64, .inl (gA t9_1)))] H := hP
  have hD : va_D A [(out, .inl (cL, 1, .inr (.inl o9_2))), (x, .inr (6, [.ref bf, .ref kb, .ref to, .ref ro, .ref fw, .ref sw, .ref na, .ref wo])), (bf, .inr (1, [.ref bc, .int (nI 0)])), (bc, .inl (cI, 64, .inl (gA b0))), (to, .inr (1, [.ref tc, .int (nI bn)])), (tc, .inl (cI, 64, .inl (gA t9_1)))] := hD
  refine lv_goto (tgt := 14) hx hb dL_tweak_8 (by decide) ?_
  refine lv_iconst (v := nI 0) hx hb dL_tweak_14 (by decide) ?_
  exact W.iret (v := (nI 0)) hx hb hr (fun t ht hW => ⟨⟨_, (t9_1, o9_2), rfl, ⟨rfl, ht9, ho9⟩, gB2_end ht hW (hP.sub [1, 2, 3, 4, 5, 0] rfl) hK2 (hD.sub [1, 2, 3, 4, 5, 0] (by decide) rfl)⟩, hS.F ht⟩) hS.2.2 dL_tweak_15

set_option maxHeartbeats 4000000 in
set_option maxRecDepth 100000 in
/-- the law calls block: ok -/
theorem w_L_block_ok (l : Launch) (hl0 : l.stackTraces = false) (dC : Nat → ClassId) (dI : Nat → Nat → Nat) (cI cL : ClassId) (tS : Nat) (sz : Nat) (x : Nat) (bf : Nat) (kb : Nat) (to : Nat) (ro : Nat) (fw : Nat) (sw : Nat) (na : Nat) (wo : Nat) (bc : Nat) (bn : Nat) (ci : Nat) (tw : Nat) (stt : Nat) (chd : Nat) (spr : Nat) (sc : Nat) (mv : Nat) (iw : Nat) (rp : Nat) (aw : Nat) (r : Nat) (b0 : Nat → Nat) (w : Nat → Nat) (v : Nat → Nat) (o0 : Nat → Nat) (Wk : Nat → Nat) (hr1 : 1 ≤ r) (hr2 : r ≤ 14) (hwk : ∀ k, k < 4 * (r + 1) → w k = pkf Wk k) (hW : ∀ j, j < 16 * (r + 1) → Wk j < 256) (hbn : bn = 16) (hb0 : ∀ j, j < 64 → b0 j < 256) : Met l yL_block wsL_block ({ frames := 4, cells := 0, slots := 0, locals := 86 }) (gPw dC dI cI cL tS [.ref x] [(x, .inr (6, [.ref bf, .ref kb, .ref to, .ref ro, .ref fw, .ref sw, .ref na, .ref wo])), (bf, .inr (1, [.ref bc, .int (nI bn)])), (bc, .inl (cI, 64, .inl (gA b0))), (fw, .inr (2, [.ref ci, .ref tw, .ref stt, .ref chd, .ref spr, .int (nI iw), .int (nI rp), .int (nI aw)])), (ci, .inr (0, [.ref sc, .ref mv, .int (nI r)])), (sc, .inl (cI, 60, .inl (gA w))), (mv, .inl (cI, 4, .inl (gA v))), (wo, .inl (cI, 4, .inl (gA o0)))] sz) (va_Qi (fun (r7 : Int32) (u : (Nat → Nat) × (Nat → Nat) × (Nat → Nat)) => r7 = (nI 0) ∧ (∀ q, q < 64 → u.1 q = if q < 16 then enc Wk r b0 q else b0 q)) (fun u t => gB2 dC dI cI cL (va_A [(x, .inr (6, [.ref bf, .ref kb, .ref to, .ref ro, .ref fw, .ref sw, .ref na, .ref wo])), (bf, .inr (1, [.ref bc, .int (nI bn)])), (bc, .inl (cI, 64, .inl (gA b0))), (fw, .inr (2, [.ref ci, .ref tw, .ref stt, .ref chd, .ref spr, .int (nI iw), .int (nI rp), .int (nI aw)])), (ci, .inr (0, [.ref sc, .ref mv, .int (nI r)])), (sc, .inl (cI, 60, .inl (gA w))), (mv, .inl (cI, 4, .inl (gA v))), (wo, .inl (cI, 4, .inl (gA o0)))] sz) [(x, .inr (6, [.ref bf, .ref kb, .ref to, .ref ro, .ref fw, .ref sw, .ref na, .ref wo])), (bf, .inr (1, [.ref bc, .int (nI bn)])), (bc, .inl (cI, 64, .inl (gA u.1))), (fw, .inr (2, [.ref ci, .ref tw, .ref stt, .ref chd, .ref spr, .int (nI iw), .int (nI rp), .int (nI aw)])), (ci, .inr (0, [.ref sc, .ref mv, .int (nI r)])), (sc, .inl (cI, 60, .inl (gA w))), (mv, .inl (cI, 4, .inl (gA u.2.1))), (wo, .inl (cI, 4, .inl (gA u.2.2)))] t) (va_A [(x, .inr (6, [.ref bf, .ref kb, .ref to, .ref ro, .ref fw, .ref sw, .ref na, .ref wo])), (bf, .inr (1, [.ref bc, .int (nI bn)])), (bc, .inl (cI, 64, .inl (gA b0))), (fw, .inr (2, [.ref ci, .ref tw, .ref stt, .ref chd, .ref spr, .int (nI iw), .int (nI rp), .int (nI aw)])), (ci, .inr (0, [.ref sc, .ref mv, .int (nI r)])), (sc, .inl (cI, 60, .inl (gA w))), (mv, .inl (cI, 4, .inl (gA v))), (wo, .inl (cI, 4, .inl (gA o0)))] sz)) 0 0 (va_A [(x, .inr (6, [.ref bf, .ref kb, .ref to, .ref ro, .ref fw, .ref sw, .ref na, .ref wo])), (bf, .inr (1, [.ref bc, .int (nI bn)])), (bc, .inl (cI, 64, .inl (gA b0))), (fw, .inr (2, [.ref ci, .ref tw, .ref stt, .ref chd, .ref spr, .int (nI iw), .int (nI rp), .int (nI aw)])), (ci, .inr (0, [.ref sc, .ref mv, .int (nI r)])), (sc, .inl (cI, 60, .inl (gA w))), (mv, .inl (cI, 4, .inl (gA v))), (wo, .inl (cI, 4, .inl (gA o0)))] sz) := by
  refine va_MetW (cc := cL_block) (maxL := 2) (ret := (some .int)) (by decide) rfl ?_
  intro p e s m args below meth c s₁ B9 hml hv
  obtain ⟨rfl, hsz, ⟨hP, hK2, hD0⟩, hG⟩ := hv
  have hK := hK2.sub (tys' := [(cI, .int)]) [0] rfl
  have hx := B9.exec
  have hb := B9.bytes
  have hr := B9.returns
  have hts := atoms_spec (ws := wsL_block) B9.pre
  have htab := vx_table (x := yL_block) B9 (hts _ List.mem_cons_self)
  have hown : s.vm.findClass RL = some m.cls := findClass_of_methodNamed B9.named
  have hlocks := B9.notSynchronized
  subst hsz
  have hD := hD0.self (sz := s.heap.size)
  generalize hAe : va_A [(x, .inr (6, [.ref bf, .ref kb, .ref to, .ref ro, .ref fw, .ref sw, .ref na, .ref wo])), (bf, .inr (1, [.ref bc, .int (nI bn)])), (bc, .inl (cI, 64, .inl (gA b0))), (fw, .inr (2, [.ref ci, .ref tw, .ref stt, .ref chd, .ref spr, .int (nI iw), .int (nI rp), .int (nI aw)])), (ci, .inr (0, [.ref sc, .ref mv, .int (nI r)])), (sc, .inl (cI, 60, .inl (gA w))), (mv, .inl (cI, 4, .inl (gA v))), (wo, .inl (cI, 4, .inl (gA o0)))] s.heap.size = A at hD hG ⊢
  have hE := hG.1
  have hA : ∀ q : Nat, s.heap.size ≤ q → A q := fun q h => by rw [← hAe]; exact Or.inr h
  have hS : va_S A s.heap s.heap [] := va_S.rf
  have hl := lv_entry ([.ref x]) (n := 2) (Nat.le_of_ble_eq_true rfl)
  rw [lg_entry_eq]
  generalize (lg_sl ([.ref x]) ++ List.replicate (2 - (lg_sl ([.ref x])).length) Slot.unset).toArray = ls at hl ⊢
  have hl : lv_has ls 2 [(0, .ref x)] := hl
  refine lv_aload_n hx hb dL_block_0 rfl (lv_at hl 0 rfl) ?_
  have hPc := hP.sub (ws' := [(x, .inr (6, [.ref bf, .ref kb, .ref to, .ref ro, .ref fw, .ref sw, .ref na, .ref wo])), (bf, .inr (1, [.ref bc, .int (nI bn)])), (bc, .inl (cI, 64, .inl (gA b0))), (fw, .inr (2, [.ref ci, .ref tw, .ref stt, .ref chd, .ref spr, .int (nI iw), .int (nI rp), .int (nI aw)])), (ci, .inr (0, [.ref sc, .ref mv, .int (nI r)])), (sc, .inl (cI, 60, .inl (gA w))), (mv, .inl (cI, 4, .inl (gA v))), (wo, .inl (cI, 4, .inl (gA o0)))]) [0, 1, 2, 3, 4, 5, 6, 7] rfl
  have hDc := hD.sub (ws' := [(x, .inr (6, [.ref bf, .ref kb, .ref to, .ref ro, .ref fw, .ref sw, .ref na, .ref wo])), (bf, .inr (1, [.ref bc, .int (nI bn)])), (bc, .inl (cI, 64, .inl (gA b0))), (fw, .inr (2, [.ref ci, .ref tw, .ref stt, .ref chd, .ref spr, .int (nI iw), .int (nI rp), .int (nI aw)])), (ci, .inr (0, [.ref sc, .ref mv, .int (nI r)])), (sc, .inl (cI, 60, .inl (gA w))), (mv, .inl (cI, 4, .inl (gA v))), (wo, .inl (cI, 4, .inl (gA o0)))]) [0, 1, 2, 3, 4, 5, 6, 7] (by decide) rfl
  have hFc := va_free (wc := [(x, .inr (6, [.ref bf, .ref kb, .ref to, .ref ro, .ref fw, .ref sw, .ref na, .ref wo])), (bf, .inr (1, [.ref bc, .int (nI bn)])), (bc, .inl (cI, 64, .inl (gA b0))), (fw, .inr (2, [.ref ci, .ref tw, .ref stt, .ref chd, .ref spr, .int (nI iw), .int (nI rp), .int (nI aw)])), (ci, .inr (0, [.ref sc, .ref mv, .int (nI r)])), (sc, .inl (cI, 60, .inl (gA w))), (mv, .inl (cI, 4, .inl (gA v))), (wo, .inl (cI, 4, .inl (gA o0)))]) hD hS hA [0, 1, 2, 3, 4, 5, 6, 7] rfl
  refine va_callv (va_runV (As := []) (rest := []) ⟨hx, hb, hml, hown, hts⟩ (c_X7_block_ok l dC dI cI tS s.heap.size x bf kb to ro fw sw na wo bc bn ci tw stt chd spr sc mv iw rp aw r b0 w v o0 Wk hr1 hr2 hwk hW hbn hb0) (cwV 0 hts gL_block_X7_block rfl rfl rfl (by decide +kernel) ⟨Nat.le_of_ble_eq_true rfl, Nat.le_of_ble_eq_true rfl⟩) ⟨gPe_blind, va_recv hK hPc (ci := 6) (q0 := 0) rfl rfl, gPe_pre hPc hK hDc (hE.at hS) hFc⟩ rfl rfl hl.1 rfl (lv_room (Nat.le_of_ble_eq_true rfl)) dL_block_1 ⟨Nat.zero_le _, Nat.zero_le _⟩) hS (fun q _ h => hFc q h) hFc (fun u8 t8 H1 locs ht hvm hw hB hz1 hk1 hS => ?_)
  obtain ⟨b9_1, v9_1, o9_1⟩ := u8
  try dsimp only at hw hB
  obtain ⟨hP, hD⟩ := gB_join (wr := []) (w2 := [(x, .inr (6, [.ref bf, .ref kb, .ref to, .ref ro, .ref fw, .ref sw, .ref na, .ref wo])), (bf, .inr (1, [.ref bc, .int (nI bn)])), (bc, .inl (cI, 64, .inl (gA b9_1))), (fw, .inr (2, [.ref ci, .ref tw, .ref stt, .ref chd, .ref spr, .int (nI iw), .int (nI rp), .int (nI aw)])), (ci, .inr (0, [.ref sc, .ref mv, .int (nI r)])), (sc, .inl (cI, 60, .inl (gA w))), (mv, .inl (cI, 4, .inl (gA v9_1))), (wo, .inl (cI, 4, .inl (gA o9_1)))]) hP hD [0, 1, 2, 3, 4, 5, 6, 7] [] rfl rfl (by decide) (by decide) hk1 hFc ht hB rfl
  clear hk1 hz1 ht hB hvm hPc hDc hFc
  generalize H1 = H at hP hS ⊢
  have hb9 := hw
  refine lv_goto (tgt := 10) hx hb dL_block_4 (by decide) ?_
  refine lv_iconst (v := nI 0) hx hb dL_block_10 (by decide) ?_
  exact W.iret (v := (nI 0)) hx hb hr (fun t ht hW => ⟨⟨_, (b9_1, v9_1, o9_1), rfl, ⟨rfl, hb9⟩, gB2_end ht hW hP hK2 hD⟩, hS.F ht⟩) hS.2.2 dL_block_11

set_option maxHeartbeats 4000000 in
set_option maxRecDepth 100000 in
/-- the law calls radix: ok -/
theorem w_L_radix_ok (l : Launch) (hl0 : l.stackTraces = false) (dC : Nat → ClassId) (dI : Nat → Nat → Nat) (cI cL : ClassId) (tS : Nat) (sz : Nat) (x : Nat) (bf : Nat) (kb : Nat) (to : Nat) (ro : Nat) (fw : Nat) (sw : Nat) (na : Nat) (wo : Nat) (rc : Nat) (n : Nat) (bs : Nat) (r : Nat) (out : Nat) (o0 : Nat → Int64) (hr1 : 2 ≤ r) (hr2 : r ≤ 65536) : Met l yL_radix wsL_radix ({ frames := 1, cells := 0, slots := 0, locals := 22 }) (gPw dC dI cI cL tS [.ref x, .int (nI r), .ref out] [(x, .inr (6, [.ref bf, .ref kb, .ref to, .ref ro, .ref fw, .ref sw, .ref na, .ref wo])), (ro, .inr (4, [.ref rc, .int (nI n), .int (nI bs)])), (out, .inl (cL, 1, .inr (.inl o0)))] sz) (va_Qi (fun (r7 : Int32) (u : (Nat → Int64)) => r7 = (nI 0) ∧ (u 0 = (nI (n)).toInt64)) (fun u t => gB2 dC dI cI cL (va_A [(x, .inr (6, [.ref bf, .ref kb, .ref to, .ref ro, .ref fw, .ref sw, .ref na, .ref wo])), (ro, .inr (4, [.ref rc, .int (nI n), .int (nI bs)])), (out, .inl (cL, 1, .inr (.inl o0)))] sz) [(x, .inr (6, [.ref bf, .ref kb, .ref to, .ref ro, .ref fw, .ref sw, .ref na, .ref wo])), (ro, .inr (4, [.ref rc, .int (nI 0), .int (nI r)])), (out, .inl (cL, 1, .inr (.inl u)))] t) (va_A [(x, .inr (6, [.ref bf, .ref kb, .ref to, .ref ro, .ref fw, .ref sw, .ref na, .ref wo])), (ro, .inr (4, [.ref rc, .int (nI n), .int (nI bs)])), (out, .inl (cL, 1, .inr (.inl o0)))] sz)) 0 0 (va_A [(x, .inr (6, [.ref bf, .ref kb, .ref to, .ref ro, .ref fw, .ref sw, .ref na, .ref wo])), (ro, .inr (4, [.ref rc, .int (nI n), .int (nI bs)])), (out, .inl (cL, 1, .inr (.inl o0)))] sz) := by
  refine va_MetW (cc := cL_radix) (maxL := 4) (ret := (some .int)) (by decide) rfl ?_
  intro p e s m args below meth c s₁ B9 hml hv
  obtain ⟨rfl, hsz, ⟨hP, hK2, hD0⟩, hG⟩ := hv
  have hK := hK2.sub (tys' := [(cI, .int)]) [0] rfl
  have hx := B9.exec
  have hb := B9.bytes
  have hr := B9.returns
  have hts := atoms_spec (ws := wsL_radix) B9.pre
  have htab := vx_table (x := yL_radix) B9 (hts _ List.mem_cons_self)
  have hown : s.vm.findClass RL = some m.cls := findClass_of_methodNamed B9.named
  have hlocks := B9.notSynchronized
  subst hsz
  have hD := hD0.self (sz := s.heap.size)
  generalize hAe : va_A [(x, .inr (6, [.ref bf, .ref kb, .ref to, .ref ro, .ref fw, .ref sw, .ref na, .ref wo])), (ro, .inr (4, [.ref rc, .int (nI n), .int (nI bs)])), (out, .inl (cL, 1, .inr (.inl o0)))] s.heap.size = A at hD hG ⊢
  have hE := hG.1
  have hA : ∀ q : Nat, s.heap.size ≤ q → A q := fun q h => by rw [← hAe]; exact Or.inr h
  have hS : va_S A s.heap s.heap [] := va_S.rf
  have hl := lv_entry ([.ref x, .int (nI r), .ref out]) (n := 4) (Nat.le_of_ble_eq_true rfl)
  rw [lg_entry_eq]
  generalize (lg_sl ([.ref x, .int (nI r), .ref out]) ++ List.replicate (4 - (lg_sl ([.ref x, .int (nI r), .ref out])).length) Slot.unset).toArray = ls at hl ⊢
  have hl : lv_has ls 4 [(0, .ref x), (1, .int (nI r)), (2, .ref out)] := hl
  refine lv_aload_n hx hb dL_radix_0 rfl (lv_at hl 2 rfl) ?_
  refine lv_iconst (v := nI 0) hx hb dL_radix_1 (by decide) ?_
  refine lv_aload_n hx hb dL_radix_2 rfl (lv_at hl 0 rfl) ?_
  refine lv_iload_n hx hb dL_radix_3 rfl (lv_at hl 1 rfl) ?_
  have hPc := hP.sub (ws' := [(x, .inr (6, [.ref bf, .ref kb, .ref to, .ref ro, .ref fw, .ref sw, .ref na, .ref wo])), (ro, .inr (4, [.ref rc, .int (nI n), .int (nI bs)]))]) [0, 1] rfl
  have hDc := hD.sub (ws' := [(x, .inr (6, [.ref bf, .ref kb, .ref to, .ref ro, .ref fw, .ref sw, .ref na, .ref wo])), (ro, .inr (4, [.ref rc, .int (nI n), .int (nI bs)]))]) [0, 1] (by decide) rfl
  have hFc := va_free (wc := [(x, .inr (6, [.ref bf, .ref kb, .ref to, .ref ro, .ref fw, .ref sw, .ref na, .ref wo])), (ro, .inr (4, [.ref rc, .int (nI n), .int (nI bs)]))]) hD hS hA [0, 1] rfl
  refine va_calli (va_runV (As := [.int (nI r)]) (rest := [.int (nI 0), .ref out]) ⟨hx, hb, hml, hown, hts⟩ (c_X7_radix_ok l dC dI cI tS s.heap.size x bf kb to ro fw sw na wo rc n bs r hr1 hr2) (cwV 1 hts gL_radix_X7_radix rfl rfl rfl (by decide +kernel) ⟨Nat.le_of_ble_eq_true rfl, Nat.le_of_ble_eq_true rfl⟩) ⟨gPe_blind, va_recv hK hPc (ci := 6) (q0 := 0) rfl rfl, gPe_pre hPc hK hDc (hE.at hS) hFc⟩ rfl rfl hl.1 rfl (lv_room (Nat.le_of_ble_eq_true rfl)) dL_radix_4 ⟨Nat.zero_le _, Nat.zero_le _⟩) hS (fun q _ h => hFc q h) hFc (fun r9 u8 t8 H1 locs ht hvm hw hB hz1 hk1 hS => ?_)
  try dsimp only at hw hB
  obtain ⟨hP, hD⟩ := gB_join (wr := [(out, .inl (cL, 1, .inr (.inl o0)))]) (w2 := [(out, .inl (cL, 1, .inr (.inl o0))), (x, .inr (6, [.ref bf, .ref kb, .ref to, .ref ro, .ref fw, .ref sw, .ref na, .ref wo])), (ro, .inr (4, [.ref rc, .int (nI 0), .int (nI r)]))]) hP hD [0, 1] [2] rfl rfl (by decide) (by decide) hk1 hFc ht hB rfl
  clear hk1 hz1 ht hB hvm hPc hDc hFc
  generalize H1 = H at hP hS ⊢
  subst hw
  refine lv_i2l (v := (nI n).toInt64) hx hb dL_radix_7 rfl ?_
  refine va_last hx hb hK2 hP hD hS 0 1 rfl rfl (vp_in_nI (by decide) (by decide)) dL_radix_8 (fun H locs hP hD hS => ?_)
  obtain ⟨o9_2, ho9_2⟩ : ∃ z : Nat → Int64, z = vp_updL o0 (nI 0).toNatClampNeg ((nI n).toInt64) := ⟨_, rfl⟩
  rw [← ho9_2] at hP hD
  have ho9 : o9_2 0 = ((nI n).toInt64) := by rw [ho9_2]; exact if_pos rfl
  have hP : va_P (dC, dI) vwCl [(out, .inl (cL, 1, .inr (.inl o9_2))), (x, .inr (6, [.ref bf, .ref kb, .ref to, .ref ro, .ref fw, .ref sw, .ref na, .ref wo])), (ro, .inr (4, [.ref rc, .int (nI 0), .int (nI r)]))] H := hP
  have hD : va_D A [(out, .inl (cL, 1, .inr (.inl o9_2))), (x, .inr (6, [.ref bf, .ref kb, .ref to, .ref ro, .ref fw, .ref sw, .ref na, .ref wo])), (ro, .inr (4, [.ref rc, .int (nI 0), .int (nI r)]))] := hD
  refine lv_goto (tgt := 15) hx hb dL_radix_9 (by decide) ?_
  refine lv_iconst (v := nI 0) hx hb dL_radix_15 (by decide) ?_
  exact W.iret (v := (nI 0)) hx hb hr (fun t ht hW => ⟨⟨_, (o9_2), rfl, ⟨rfl, ho9⟩, gB2_end ht hW (hP.sub [1, 2, 0] rfl) hK2 (hD.sub [1, 2, 0] (by decide) rfl)⟩, hS.F ht⟩) hS.2.2 dL_radix_16

set_option maxHeartbeats 4000000 in
set_option maxRecDepth 100000 in
/-- the law calls numeral: ok -/
theorem w_L_numeral_ok (l : Launch) (hl0 : l.stackTraces = false) (dC : Nat → ClassId) (dI : Nat → Nat → Nat) (cI cL : ClassId) (tS : Nat) (sz : Nat) (x : Nat) (bf : Nat) (kb : Nat) (to : Nat) (ro : Nat) (fw : Nat) (sw : Nat) (na : Nat) (wo : Nat) (rc : Nat) (n : Nat) (bs : Nat) (v : Nat) (f : Nat → Nat) (out : Nat) (o0 : Nat → Int64) (hv : v < bs) (hb2 : bs ≤ 65536) (hn : n < 64) : Met l yL_numeral wsL_numeral ({ frames := 2, cells := 0, slots := 0, locals := 42 }) (gPw dC dI cI cL tS [.ref x, .int (nI v), .ref out] [(x, .inr (6, [.ref bf, .ref kb, .ref to, .ref ro, .ref fw, .ref sw, .ref na, .ref wo])), (ro, .inr (4, [.ref rc, .int (nI n), .int (nI bs)])), (rc, .inl (cI, 64, .inl (gA f))), (out, .inl (cL, 1, .inr (.inl o0)))] sz) (va_Qi (fun (r7 : Int32) (u : (Nat → Int64)) => r7 = (nI 0) ∧ (u 0 = (nI (n + 1)).toInt64)) (fun u t => gB2 dC dI cI cL (va_A [(x, .inr (6, [.ref bf, .ref kb, .ref to, .ref ro, .ref fw, .ref sw, .ref na, .ref wo])), (ro, .inr (4, [.ref rc, .int (nI n), .int (nI bs)])), (rc, .inl (cI, 64, .inl (gA f))), (out, .inl (cL, 1, .inr (.inl o0)))] sz) [(x, .inr (6, [.ref bf, .ref kb, .ref to, .ref ro, .ref fw, .ref sw, .ref na, .ref wo])), (ro, .inr (4, [.ref rc, .int (nI (n + 1)), .int (nI bs)])), (rc, .inl (cI, 64, .inl (gA (gU f n v)))), (out, .inl (cL, 1, .inr (.inl u)))] t) (va_A [(x, .inr (6, [.ref bf, .ref kb, .ref to, .ref ro, .ref fw, .ref sw, .ref na, .ref wo])), (ro, .inr (4, [.ref rc, .int (nI n), .int (nI bs)])), (rc, .inl (cI, 64, .inl (gA f))), (out, .inl (cL, 1, .inr (.inl o0)))] sz)) 0 0 (va_A [(x, .inr (6, [.ref bf, .ref kb, .ref to, .ref ro, .ref fw, .ref sw, .ref na, .ref wo])), (ro, .inr (4, [.ref rc, .int (nI n), .int (nI bs)])), (rc, .inl (cI, 64, .inl (gA f))), (out, .inl (cL, 1, .inr (.inl o0)))] sz) := by
  refine va_MetW (cc := cL_numeral) (maxL := 4) (ret := (some .int)) (by decide) rfl ?_
  intro p e s m args below meth c s₁ B9 hml hv
  obtain ⟨rfl, hsz, ⟨hP, hK2, hD0⟩, hG⟩ := hv
  have hK := hK2.sub (tys' := [(cI, .int)]) [0] rfl
  have hx := B9.exec
  have hb := B9.bytes
  have hr := B9.returns
  have hts := atoms_spec (ws := wsL_numeral) B9.pre
  have htab := vx_table (x := yL_numeral) B9 (hts _ List.mem_cons_self)
  have hown : s.vm.findClass RL = some m.cls := findClass_of_methodNamed B9.named
  have hlocks := B9.notSynchronized
  subst hsz
  have hD := hD0.self (sz := s.heap.size)
  generalize hAe : va_A [(x, .inr (6, [.ref bf, .ref kb, .ref to, .ref ro, .ref fw, .ref sw, .ref na, .ref wo])), (ro, .inr (4, [.ref rc, .int (nI n), .int (nI bs)])), (rc, .inl (cI, 64, .inl (gA f))), (out, .inl (cL, 1, .inr (.inl o0)))] s.heap.size = A at hD hG ⊢
  have hE := hG.1
  have hA : ∀ q : Nat, s.heap.size ≤ q → A q := fun q h => by rw [← hAe]; exact Or.inr h
  have hS : va_S A s.heap s.heap [] := va_S.rf
  have hl := lv_entry ([.ref x, .int (nI v), .ref out]) (n := 4) (Nat.le_of_ble_eq_true rfl)
  rw [lg_entry_eq]
  generalize (lg_sl ([.ref x, .int (nI v), .ref out]) ++ List.replicate (4 - (lg_sl ([.ref x, .int (nI v), .ref out])).length) Slot.unset).toArray = ls at hl ⊢
  have hl : lv_has ls 4 [(0, .ref x), (1, .int (nI v)), (2, .ref out)] := hl
  refine lv_aload_n hx hb dL_numeral_0 rfl (lv_at hl 2 rfl) ?_
  refine lv_iconst (v := nI 0) hx hb dL_numeral_1 (by decide) ?_
  refine lv_aload_n hx hb dL_numeral_2 rfl (lv_at hl 0 rfl) ?_
  refine lv_iload_n hx hb dL_numeral_3 rfl (lv_at hl 1 rfl) ?_
  have hPc := hP.sub (ws' := [(x, .inr (6, [.ref bf, .ref kb, .ref to, .ref ro, .ref fw, .ref sw, .ref na, .ref wo])), (ro, .inr (4, [.ref rc, .int (nI n), .int (nI bs)])), (rc, .inl (cI, 64, .inl (gA f)))]) [0, 1, 2] rfl
  have hDc := hD.sub (ws' := [(x, .inr (6, [.ref bf, .ref kb, .ref to, .ref ro, .ref fw, .ref sw, .ref na, .ref wo])), (ro, .inr (4, [.ref rc, .int (nI n), .int (nI bs)])), (rc, .inl (cI, 64, .inl (gA f)))]) [0, 1, 2] (by decide) rfl
  have hFc := va_free (wc := [(x, .inr (6, [.ref bf, .ref kb, .ref to, .ref ro, .ref fw, .ref sw, .ref na, .ref wo])), (ro, .inr (4, [.ref rc, .int (nI n), .int (nI bs)])), (rc, .inl (cI, 64, .inl (gA f)))]) hD hS hA [0, 1, 2] rfl
  refine va_calli (va_runV (As := [.int (nI v)]) (rest := [.int (nI 0), .ref out]) ⟨hx, hb, hml, hown, hts⟩ (c_X7_numeral_ok l dC dI cI tS s.heap.size x bf kb to ro fw sw na wo rc n bs v f hv hb2 hn) (cwV 1 hts gL_numeral_X7_numeral rfl rfl rfl (by decide +kernel) ⟨Nat.le_of_ble_eq_true rfl, Nat.le_of_ble_eq_true rfl⟩) ⟨gPe_blind, va_recv hK hPc (ci := 6) (q0 := 0) rfl rfl, gPe_pre hPc hK hDc (hE.at hS) hFc⟩ rfl rfl hl.1 rfl (lv_room (Nat.le_of_ble_eq_true rfl)) dL_numeral_4 ⟨Nat.zero_le _, Nat.zero_le _⟩) hS (fun q _ h => hFc q h) hFc (fun r9 u8 t8 H1 locs ht hvm hw hB hz1 hk1 hS => ?_)
  try dsimp only at hw hB
  obtain ⟨hP, hD⟩ := gB_join (wr := [(out, .inl (cL, 1, .inr (.inl o0)))]) (w2 := [(out, .inl (cL, 1, .inr (.inl o0))), (x, .inr (6, [.ref bf, .ref kb, .ref to, .ref ro, .ref fw, .ref sw, .ref na, .ref wo])), (ro, .inr (4, [.ref rc, .int (nI (n + 1)), .int (nI bs)])), (rc, .inl (cI, 64, .inl (gA (gU f n v))))]) hP hD [0, 1, 2] [3] rfl rfl (by decide) (by decide) hk1 hFc ht hB rfl
  clear hk1 hz1 ht hB hvm hPc hDc hFc
  generalize H1 = H at hP hS ⊢
  subst hw
  refine lv_i2l (v := (nI (n + 1)).toInt64) hx hb dL_numeral_7 rfl ?_
  refine va_last hx hb hK2 hP hD hS 0 1 rfl rfl (vp_in_nI (by decide) (by decide)) dL_numeral_8 (fun H locs hP hD hS => ?_)
  obtain ⟨o9_2, ho9_2⟩ : ∃ z : Nat → Int64, z = vp_updL o0 (nI 0).toNatClampNeg ((nI (n + 1)).toInt64) := ⟨_, rfl⟩
  rw [← ho9_2] at hP hD
  have ho9 : o9_2 0 = ((nI (n + 1)).toInt64) := by rw [ho9_2]; exact if_pos rfl
  have hP : va_P (dC, dI) vwCl [(out, .inl (cL, 1, .inr (.inl o9_2))), (x, .inr (6, [.ref bf, .ref kb, .ref to, .ref ro, .ref fw, .ref sw, .ref na, .ref wo])), (ro, .inr (4, [.ref rc, .int (nI (n + 1)), .int (nI bs)])), (rc, .inl (cI, 64, .inl (gA (gU f n v))))] H := hP
  have hD : va_D A [(out, .inl (cL, 1, .inr (.inl o9_2))), (x, .inr (6, [.ref bf, .ref kb, .ref to, .ref ro, .ref fw, .ref sw, .ref na, .ref wo])), (ro, .inr (4, [.ref rc, .int (nI (n + 1)), .int (nI bs)])), (rc, .inl (cI, 64, .inl (gA (gU f n v))))] := hD
  refine lv_goto (tgt := 18) hx hb dL_numeral_9 (by decide) ?_
  refine lv_iconst (v := nI 0) hx hb dL_numeral_18 (by decide) ?_
  exact W.iret (v := (nI 0)) hx hb hr (fun t ht hW => ⟨⟨_, (o9_2), rfl, ⟨rfl, ho9⟩, gB2_end ht hW (hP.sub [1, 2, 3, 0] rfl) hK2 (hD.sub [1, 2, 3, 0] (by decide) rfl)⟩, hS.F ht⟩) hS.2.2 dL_numeral_19

set_option maxHeartbeats 4000000 in
set_option maxRecDepth 100000 in
/-- the law calls cut: ok -/
theorem w_L_cut_ok (l : Launch) (hl0 : l.stackTraces = false) (dC : Nat → ClassId) (dI : Nat → Nat → Nat) (cI cL : ClassId) (tS : Nat) (sz : Nat) (x : Nat) (bf : Nat) (kb : Nat) (to : Nat) (ro : Nat) (fw : Nat) (sw : Nat) (na : Nat) (wo : Nat) (rc : Nat) (n : Nat) (bs : Nat) (k : Nat) (hk : k ≤ n) (hn : n ≤ 64) : Met l yL_cut wsL_cut ({ frames := 1, cells := 0, slots := 0, locals := 21 }) (gPw dC dI cI cL tS [.ref x, .int (nI k)] [(x, .inr (6, [.ref bf, .ref kb, .ref to, .ref ro, .ref fw, .ref sw, .ref na, .ref wo])), (ro, .inr (4, [.ref rc, .int (nI n), .int (nI bs)]))] sz) (va_Qi (fun (r7 : Int32) (_u : Unit) => r7 = (nI 0)) (fun _u t => gB2 dC dI cI cL (va_A [(x, .inr (6, [.ref bf, .ref kb, .ref to, .ref ro, .ref fw, .ref sw, .ref na, .ref wo])), (ro, .inr (4, [.ref rc, .int (nI n), .int (nI bs)]))] sz) [(x, .inr (6, [.ref bf, .ref kb, .ref to, .ref ro, .ref fw, .ref sw, .ref na, .ref wo])), (ro, .inr (4, [.ref rc, .int (nI k), .int (nI bs)]))] t) (va_A [(x, .inr (6, [.ref bf, .ref kb, .ref to, .ref ro, .ref fw, .ref sw, .ref na, .ref wo])), (ro, .inr (4, [.ref rc, .int (nI n), .int (nI bs)]))] sz)) 0 0 (va_A [(x, .inr (6, [.ref bf, .ref kb, .ref to, .ref ro, .ref fw, .ref sw, .ref na, .ref wo])), (ro, .inr (4, [.ref rc, .int (nI n), .int (nI bs)]))] sz) := by
  refine va_MetW (cc := cL_cut) (maxL := 3) (ret := (some .int)) (by decide) rfl ?_
  intro p e s m args below meth c s₁ B9 hml hv
  obtain ⟨rfl, hsz, ⟨hP, hK2, hD0⟩, hG⟩ := hv
  have hK := hK2.sub (tys' := [(cI, .int)]) [0] rfl
  have hx := B9.exec
  have hb := B9.bytes
  have hr := B9.returns
  have hts := atoms_spec (ws := wsL_cut) B9.pre
  have htab := vx_table (x := yL_cut) B9 (hts _ List.mem_cons_self)
  have hown : s.vm.findClass RL = some m.cls := findClass_of_methodNamed B9.named
  have hlocks := B9.notSynchronized
  subst hsz
  have hD := hD0.self (sz := s.heap.size)
  generalize hAe : va_A [(x, .inr (6, [.ref bf, .ref kb, .ref to, .ref ro, .ref fw, .ref sw, .ref na, .ref wo])), (ro, .inr (4, [.ref rc, .int (nI n), .int (nI bs)]))] s.heap.size = A at hD hG ⊢
  have hE := hG.1
  have hA : ∀ q : Nat, s.heap.size ≤ q → A q := fun q h => by rw [← hAe]; exact Or.inr h
  have hS : va_S A s.heap s.heap [] := va_S.rf
  have hl := lv_entry ([.ref x, .int (nI k)]) (n := 3) (Nat.le_of_ble_eq_true rfl)
  rw [lg_entry_eq]
  generalize (lg_sl ([.ref x, .int (nI k)]) ++ List.replicate (3 - (lg_sl ([.ref x, .int (nI k)])).length) Slot.unset).toArray = ls at hl ⊢
  have hl : lv_has ls 3 [(0, .ref x), (1, .int (nI k))] := hl
  refine lv_aload_n hx hb dL_cut_0 rfl (lv_at hl 0 rfl) ?_
  refine lv_iload_n hx hb dL_cut_1 rfl (lv_at hl 1 rfl) ?_
  have hPc := hP.sub (ws' := [(x, .inr (6, [.ref bf, .ref kb, .ref to, .ref ro, .ref fw, .ref sw, .ref na, .ref wo])), (ro, .inr (4, [.ref rc, .int (nI n), .int (nI bs)]))]) [0, 1] rfl
  have hDc := hD.sub (ws' := [(x, .inr (6, [.ref bf, .ref kb, .ref to, .ref ro, .ref fw, .ref sw, .ref na, .ref wo])), (ro, .inr (4, [.ref rc, .int (nI n), .int (nI bs)]))]) [0, 1] (by decide) rfl
  have hFc := va_free (wc := [(x, .inr (6, [.ref bf, .ref kb, .ref to, .ref ro, .ref fw, .ref sw, .ref na, .ref wo])), (ro, .inr (4, [.ref rc, .int (nI n), .int (nI bs)]))]) hD hS hA [0, 1] rfl
  refine va_callv (va_runV (As := [.int (nI k)]) (rest := []) ⟨hx, hb, hml, hown, hts⟩ (c_X7_cut_ok l dC dI cI tS s.heap.size x bf kb to ro fw sw na wo rc n bs k hk hn) (cwV 1 hts gL_cut_X7_cut rfl rfl rfl (by decide +kernel) ⟨Nat.le_of_ble_eq_true rfl, Nat.le_of_ble_eq_true rfl⟩) ⟨gPe_blind, va_recv hK hPc (ci := 6) (q0 := 0) rfl rfl, gPe_pre hPc hK hDc (hE.at hS) hFc⟩ rfl rfl hl.1 rfl (lv_room (Nat.le_of_ble_eq_true rfl)) dL_cut_2 ⟨Nat.zero_le _, Nat.zero_le _⟩) hS (fun q _ h => hFc q h) hFc (fun u8 t8 H1 locs ht hvm hw hB hz1 hk1 hS => ?_)
  try dsimp only at hw hB
  obtain ⟨hP, hD⟩ := gB_join (wr := []) (w2 := [(x, .inr (6, [.ref bf, .ref kb, .ref to, .ref ro, .ref fw, .ref sw, .ref na, .ref wo])), (ro, .inr (4, [.ref rc, .int (nI k), .int (nI bs)]))]) hP hD [0, 1] [] rfl rfl (by decide) (by decide) hk1 hFc ht hB rfl
  clear hk1 hz1 ht hB hvm hPc hDc hFc
  generalize H1 = H at hP hS ⊢
  refine lv_goto (tgt := 11) hx hb dL_cut_5 (by decide) ?_
  refine lv_iconst (v := nI 0) hx hb dL_cut_11 (by decide) ?_
  exact W.iret (v := (nI 0)) hx hb hr (fun t ht hW => ⟨⟨_, (), rfl, rfl, gB2_end ht hW hP hK2 hD⟩, hS.F ht⟩) hS.2.2 dL_cut_12

set_option maxHeartbeats 4000000 in
set_option maxRecDepth 100000 in
/-- the law calls set: ok -/
theorem w_L_set_ok (l : Launch) (hl0 : l.stackTraces = false) (dC : Nat → ClassId) (dI : Nat → Nat → Nat) (cI cL : ClassId) (tS : Nat) (sz : Nat) (x : Nat) (bf : Nat) (kb : Nat) (to : Nat) (ro : Nat) (fw : Nat) (sw : Nat) (na : Nat) (wo : Nat) (rc : Nat) (n : Nat) (bs : Nat) (i : Nat) (v : Nat) (f : Nat → Nat) (out : Nat) (o0 : Nat → Int64) (hi : i < n) (hn : n ≤ 64) (hv : v < bs) (hb2 : bs ≤ 65536) : Met l yL_set wsL_set ({ frames := 2, cells := 0, slots := 0, locals := 44 }) (gPw dC dI cI cL tS [.ref x, .int (nI i), .int (nI v), .ref out] [(x, .inr (6, [.ref bf, .ref kb, .ref to, .ref ro, .ref fw, .ref sw, .ref na, .ref wo])), (ro, .inr (4, [.ref rc, .int (nI n), .int (nI bs)])), (rc, .inl (cI, 64, .inl (gA f))), (out, .inl (cL, 1, .inr (.inl o0)))] sz) (va_Qi (fun (r7 : Int32) (u : (Nat → Int64)) => r7 = (nI 0) ∧ (u 0 = (nI (f i)).toInt64)) (fun u t => gB2 dC dI cI cL (va_A [(x, .inr (6, [.ref bf, .ref kb, .ref to, .ref ro, .ref fw, .ref sw, .ref na, .ref wo])), (ro, .inr (4, [.ref rc, .int (nI n), .int (nI bs)])), (rc, .inl (cI, 64, .inl (gA f))), (out, .inl (cL, 1, .inr (.inl o0)))] sz) [(x, .inr (6, [.ref bf, .ref kb, .ref to, .ref ro, .ref fw, .ref sw, .ref na, .ref wo])), (ro, .inr (4, [.ref rc, .int (nI n), .int (nI bs)])), (rc, .inl (cI, 64, .inl (gA (gU f i v)))), (out, .inl (cL, 1, .inr (.inl u)))] t) (va_A [(x, .inr (6, [.ref bf, .ref kb, .ref to, .ref ro, .ref fw, .ref sw, .ref na, .ref wo])), (ro, .inr (4, [.ref rc, .int (nI n), .int (nI bs)])), (rc, .inl (cI, 64, .inl (gA f))), (out, .inl (cL, 1, .inr (.inl o0)))] sz)) 0 0 (va_A [(x, .inr (6, [.ref bf, .ref kb, .ref to, .ref ro, .ref fw, .ref sw, .ref na, .ref wo])), (ro, .inr (4, [.ref rc, .int (nI n), .int (nI bs)])), (rc, .inl (cI, 64, .inl (gA f))), (out, .inl (cL, 1, .inr (.inl o0)))] sz) := by
  refine va_MetW (cc := cL_set) (maxL := 5) (ret := (some .int)) (by decide) rfl ?_
  intro p e s m args below meth c s₁ B9 hml hv
  obtain ⟨rfl, hsz, ⟨hP, hK2, hD0⟩, hG⟩ := hv
  have hK := hK2.sub (tys' := [(cI, .int)]) [0] rfl
  have hx := B9.exec
  have hb := B9.bytes
  have hr := B9.returns
  have hts := atoms_spec (ws := wsL_set) B9.pre
  have htab := vx_table (x := yL_set) B9 (hts _ List.mem_cons_self)
  have hown : s.vm.findClass RL = some m.cls := findClass_of_methodNamed B9.named
  have hlocks := B9.notSynchronized
  subst hsz
  have hD := hD0.self (sz := s.heap.size)
  generalize hAe : va_A [(x, .inr (6, [.ref bf, .ref kb, .ref to, .ref ro, .ref fw, .ref sw, .ref na, .ref wo])), (ro, .inr (4, [.ref rc, .int (nI n), .int (nI bs)])), (rc, .inl (cI, 64, .inl (gA f))), (out, .inl (cL, 1, .inr (.inl o0)))] s.heap.size = A at hD hG ⊢
  have hE := hG.1
  have hA : ∀ q : Nat, s.heap.size ≤ q → A q := fun q h => by rw [← hAe]; exact Or.inr h
  have hS : va_S A s.heap s.heap [] := va_S.rf
  have hl := lv_entry ([.ref x, .int (nI i), .int (nI v), .ref out]) (n := 5) (Nat.le_of_ble_eq_true rfl)
  rw [lg_entry_eq]
  generalize (lg_sl ([.ref x, .int (nI i), .int (nI v), .ref out]) ++ List.replicate (5 - (lg_sl ([.ref x, .int (nI i), .int (nI v), .ref out])).length) Slot.unset).toArray = ls at hl ⊢
  have hl : lv_has ls 5 [(0, .ref x), (1, .int (nI i)), (2, .int (nI v)), (3, .ref out)] := hl
  refine lv_aload_n hx hb dL_set_0 rfl (lv_at hl 3 rfl) ?_
  refine lv_iconst (v := nI 0) hx hb dL_set_1 (by decide) ?_
  refine lv_aload_n hx hb dL_set_2 rfl (lv_at hl 0 rfl) ?_
  refine lv_iload_n hx hb dL_set_3 rfl (lv_at hl 1 rfl) ?_
  refine lv_iload_n hx hb dL_set_4 rfl (lv_at hl 2 rfl) ?_
  have hPc := hP.sub (ws' := [(x, .inr (6, [.ref bf, .ref kb, .ref to, .ref ro, .ref fw, .ref sw, .ref na, .ref wo])), (ro, .inr (4, [.ref rc, .int (nI n), .int (nI bs)])), (rc, .inl (cI, 64, .inl (gA f)))]) [0, 1, 2] rfl
  have hDc := hD.sub (ws' := [(x, .inr (6, [.ref bf, .ref kb, .ref to, .ref ro, .ref fw, .ref sw, .ref na, .ref wo])), (ro, .inr (4, [.ref rc, .int (nI n), .int (nI bs)])), (rc, .inl (cI, 64, .inl (gA f)))]) [0, 1, 2] (by decide) rfl
  have hFc := va_free (wc := [(x, .inr (6, [.ref bf, .ref kb, .ref to, .ref ro, .ref fw, .ref sw, .ref na, .ref wo])), (ro, .inr (4, [.ref rc, .int (nI n), .int (nI bs)])), (rc, .inl (cI, 64, .inl (gA f)))]) hD hS hA [0, 1, 2] rfl
  refine va_calli (va_runV (As := [.int (nI i), .int (nI v)]) (rest := [.int (nI 0), .ref out]) ⟨hx, hb, hml, hown, hts⟩ (c_X7_set_ok l dC dI cI tS s.heap.size x bf kb to ro fw sw na wo rc n bs i v f hi hn hv hb2) (cwV 2 hts gL_set_X7_set rfl rfl rfl (by decide +kernel) ⟨Nat.le_of_ble_eq_true rfl, Nat.le_of_ble_eq_true rfl⟩) ⟨gPe_blind, va_recv hK hPc (ci := 6) (q0 := 0) rfl rfl, gPe_pre hPc hK hDc (hE.at hS) hFc⟩ rfl rfl hl.1 rfl (lv_room (Nat.le_of_ble_eq_true rfl)) dL_set_5 ⟨Nat.zero_le _, Nat.zero_le _⟩) hS (fun q _ h => hFc q h) hFc (fun r9 u8 t8 H1 locs ht hvm hw hB hz1 hk1 hS => ?_)
  try dsimp only at hw hB
  obtain ⟨hP, hD⟩ := gB_join (wr := [(out, .inl (cL, 1, .inr (.inl o0)))]) (w2 := [(out, .inl (cL, 1, .inr (.inl o0))), (x, .inr (6, [.ref bf, .ref kb, .ref to, .ref ro, .ref fw, .ref sw, .ref na, .ref wo])), (ro, .inr (4, [.ref rc, .int (nI n), .int (nI bs)])), (rc, .inl (cI, 64, .inl (gA (gU f i v))))]) hP hD [0, 1, 2] [3] rfl rfl (by decide) (by decide) hk1 hFc ht hB rfl
  clear hk1 hz1 ht hB hvm hPc hDc hFc
  generalize H1 = H at hP hS ⊢
  subst hw
  refine lv_i2l (v := (nI (f i)).toInt64) hx hb dL_set_8 rfl ?_
  refine va_last hx hb hK2 hP hD hS 0 1 rfl rfl (vp_in_nI (by decide) (by decide)) dL_set_9 (fun H locs hP hD hS => ?_)
  obtain ⟨o9_2, ho9_2⟩ : ∃ z : Nat → Int64, z = vp_updL o0 (nI 0).toNatClampNeg ((nI (f i)).toInt64) := ⟨_, rfl⟩
  rw [← ho9_2] at hP hD
  have ho9 : o9_2 0 = ((nI (f i)).toInt64) := by rw [ho9_2]; exact if_pos rfl
  have hP : va_P (dC, dI) vwCl [(out, .inl (cL, 1, .inr (.inl o9_2))), (x, .inr (6, [.ref bf, .ref kb, .ref to, .ref ro, .ref fw, .ref sw, .ref na, .ref wo])), (ro, .inr (4, [.ref rc, .int (nI n), .int (nI bs)])), (rc, .inl (cI, 64, .inl (gA (gU f i v))))] H := hP
  have hD : va_D A [(out, .inl (cL, 1, .inr (.inl o9_2))), (x, .inr (6, [.ref bf, .ref kb, .ref to, .ref ro, .ref fw, .ref sw, .ref na, .ref wo])), (ro, .inr (4, [.ref rc, .int (nI n), .int (nI bs)])), (rc, .inl (cI, 64, .inl (gA (gU f i v))))] := hD
  refine lv_goto (tgt := 21) hx hb dL_set_10 (by decide) ?_
  refine lv_iconst (v := nI 0) hx hb dL_set_21 (by decide) ?_
  exact W.iret (v := (nI 0)) hx hb hr (fun t ht hW => ⟨⟨_, (o9_2), rfl, ⟨rfl, ho9⟩, gB2_end ht hW (hP.sub [1, 2, 3, 0] rfl) hK2 (hD.sub [1, 2, 3, 0] (by decide) rfl)⟩, hS.F ht⟩) hS.2.2 dL_set_22

set_option maxHeartbeats 4000000 in
set_option maxRecDepth 100000 in
/-- the law calls at: ok -/
theorem w_L_at_ok (l : Launch) (hl0 : l.stackTraces = false) (dC : Nat → ClassId) (dI : Nat → Nat → Nat) (cI cL : ClassId) (tS : Nat) (sz : Nat) (x : Nat) (bf : Nat) (kb : Nat) (to : Nat) (ro : Nat) (fw : Nat) (sw : Nat) (na : Nat) (wo : Nat) (rc : Nat) (n : Nat) (bs : Nat) (i : Nat) (f : Nat → Nat) (out : Nat) (o0 : Nat → Int64) (hi : i < n) (hn : n ≤ 64) : Met l yL_at wsL_at ({ frames := 2, cells := 0, slots := 0, locals := 42 }) (gPw dC dI cI cL tS [.ref x, .int (nI i), .ref out] [(x, .inr (6, [.ref bf, .ref kb, .ref to, .ref ro, .ref fw, .ref sw, .ref na, .ref wo])), (ro, .inr (4, [.ref rc, .int (nI n), .int (nI bs)])), (rc, .inl (cI, 64, .inl (gA f))), (out, .inl (cL, 1, .inr (.inl o0)))] sz) (va_Qi (fun (r7 : Int32) (u : (Nat → Int64)) => r7 = (nI 0) ∧ (u 0 = (nI (f i)).toInt64)) (fun u t => gB2 dC dI cI cL (va_A [(x, .inr (6, [.ref bf, .ref kb, .ref to, .ref ro, .ref fw, .ref sw, .ref na, .ref wo])), (ro, .inr (4, [.ref rc, .int (nI n), .int (nI bs)])), (rc, .inl (cI, 64, .inl (gA f))), (out, .inl (cL, 1, .inr (.inl o0)))] sz) [(x, .inr (6, [.ref bf, .ref kb, .ref to, .ref ro, .ref fw, .ref sw, .ref na, .ref wo])), (ro, .inr (4, [.ref rc, .int (nI n), .int (nI bs)])), (rc, .inl (cI, 64, .inl (gA f))), (out, .inl (cL, 1, .inr (.inl u)))] t) (va_A [(x, .inr (6, [.ref bf, .ref kb, .ref to, .ref ro, .ref fw, .ref sw, .ref na, .ref wo])), (ro, .inr (4, [.ref rc, .int (nI n), .int (nI bs)])), (rc, .inl (cI, 64, .inl (gA f))), (out, .inl (cL, 1, .inr (.inl o0)))] sz)) 0 0 (va_A [(x, .inr (6, [.ref bf, .ref kb, .ref to, .ref ro, .ref fw, .ref sw, .ref na, .ref wo])), (ro, .inr (4, [.ref rc, .int (nI n), .int (nI bs)])), (rc, .inl (cI, 64, .inl (gA f))), (out, .inl (cL, 1, .inr (.inl o0)))] sz) := by
  refine va_MetW (cc := cL_at) (maxL := 4) (ret := (some .int)) (by decide) rfl ?_
  intro p e s m args below meth c s₁ B9 hml hv
  obtain ⟨rfl, hsz, ⟨hP, hK2, hD0⟩, hG⟩ := hv
  have hK := hK2.sub (tys' := [(cI, .int)]) [0] rfl
  have hx := B9.exec
  have hb := B9.bytes
  have hr := B9.returns
  have hts := atoms_spec (ws := wsL_at) B9.pre
  have htab := vx_table (x := yL_at) B9 (hts _ List.mem_cons_self)
  have hown : s.vm.findClass RL = some m.cls := findClass_of_methodNamed B9.named
  have hlocks := B9.notSynchronized
  subst hsz
  have hD := hD0.self (sz := s.heap.size)
  generalize hAe : va_A [(x, .inr (6, [.ref bf, .ref kb, .ref to, .ref ro, .ref fw, .ref sw, .ref na, .ref wo])), (ro, .inr (4, [.ref rc, .int (nI n), .int (nI bs)])), (rc, .inl (cI, 64, .inl (gA f))), (out, .inl (cL, 1, .inr (.inl o0)))] s.heap.size = A at hD hG ⊢
  have hE := hG.1
  have hA : ∀ q : Nat, s.heap.size ≤ q → A q := fun q h => by rw [← hAe]; exact Or.inr h
  have hS : va_S A s.heap s.heap [] := va_S.rf
  have hl := lv_entry ([.ref x, .int (nI i), .ref out]) (n := 4) (Nat.le_of_ble_eq_true rfl)
  rw [lg_entry_eq]
  generalize (lg_sl ([.ref x, .int (nI i), .ref out]) ++ List.replicate (4 - (lg_sl ([.ref x, .int (nI i), .ref out])).length) Slot.unset).toArray = ls at hl ⊢
  have hl : lv_has ls 4 [(0, .ref x), (1, .int (nI i)), (2, .ref out)] := hl
  refine lv_aload_n hx hb dL_at_0 rfl (lv_at hl 2 rfl) ?_
  refine lv_iconst (v := nI 0) hx hb dL_at_1 (by decide) ?_
  refine lv_aload_n hx hb dL_at_2 rfl (lv_at hl 0 rfl) ?_
  refine lv_iload_n hx hb dL_at_3 rfl (lv_at hl 1 rfl) ?_
  have hPc := hP.sub (ws' := [(x, .inr (6, [.ref bf, .ref kb, .ref to, .ref ro, .ref fw, .ref sw, .ref na, .ref wo])), (ro, .inr (4, [.ref rc, .int (nI n), .int (nI bs)])), (rc, .inl (cI, 64, .inl (gA f)))]) [0, 1, 2] rfl
  have hDc := hD.sub (ws' := [(x, .inr (6, [.ref bf, .ref kb, .ref to, .ref ro, .ref fw, .ref sw, .ref na, .ref wo])), (ro, .inr (4, [.ref rc, .int (nI n), .int (nI bs)])), (rc, .inl (cI, 64, .inl (gA f)))]) [0, 1, 2] (by decide) rfl
  have hFc := va_free (wc := [(x, .inr (6, [.ref bf, .ref kb, .ref to, .ref ro, .ref fw, .ref sw, .ref na, .ref wo])), (ro, .inr (4, [.ref rc, .int (nI n), .int (nI bs)])), (rc, .inl (cI, 64, .inl (gA f)))]) hD hS hA [0, 1, 2] rfl
  refine va_calli (va_runV (As := [.int (nI i)]) (rest := [.int (nI 0), .ref out]) ⟨hx, hb, hml, hown, hts⟩ (c_X7_at_ok l dC dI cI tS s.heap.size x bf kb to ro fw sw na wo rc n bs i f hi hn) (cwV 1 hts gL_at_X7_at rfl rfl rfl (by decide +kernel) ⟨Nat.le_of_ble_eq_true rfl, Nat.le_of_ble_eq_true rfl⟩) ⟨gPe_blind, va_recv hK hPc (ci := 6) (q0 := 0) rfl rfl, gPe_pre hPc hK hDc (hE.at hS) hFc⟩ rfl rfl hl.1 rfl (lv_room (Nat.le_of_ble_eq_true rfl)) dL_at_4 ⟨Nat.zero_le _, Nat.zero_le _⟩) hS (fun q _ h => hFc q h) hFc (fun r9 u8 t8 H1 locs ht hvm hw hB hz1 hk1 hS => ?_)
  try dsimp only at hw hB
  obtain ⟨hP, hD⟩ := gB_join (wr := [(out, .inl (cL, 1, .inr (.inl o0)))]) (w2 := [(out, .inl (cL, 1, .inr (.inl o0))), (x, .inr (6, [.ref bf, .ref kb, .ref to, .ref ro, .ref fw, .ref sw, .ref na, .ref wo])), (ro, .inr (4, [.ref rc, .int (nI n), .int (nI bs)])), (rc, .inl (cI, 64, .inl (gA f)))]) hP hD [0, 1, 2] [3] rfl rfl (by decide) (by decide) hk1 hFc ht hB rfl
  clear hk1 hz1 ht hB hvm hPc hDc hFc
  generalize H1 = H at hP hS ⊢
  subst hw
  refine lv_i2l (v := (nI (f i)).toInt64) hx hb dL_at_7 rfl ?_
  refine va_last hx hb hK2 hP hD hS 0 1 rfl rfl (vp_in_nI (by decide) (by decide)) dL_at_8 (fun H locs hP hD hS => ?_)
  obtain ⟨o9_2, ho9_2⟩ : ∃ z : Nat → Int64, z = vp_updL o0 (nI 0).toNatClampNeg ((nI (f i)).toInt64) := ⟨_, rfl⟩
  rw [← ho9_2] at hP hD
  have ho9 : o9_2 0 = ((nI (f i)).toInt64) := by rw [ho9_2]; exact if_pos rfl
  have hP : va_P (dC, dI) vwCl [(out, .inl (cL, 1, .inr (.inl o9_2))), (x, .inr (6, [.ref bf, .ref kb, .ref to, .ref ro, .ref fw, .ref sw, .ref na, .ref wo])), (ro, .inr (4, [.ref rc, .int (nI n), .int (nI bs)])), (rc, .inl (cI, 64, .inl (gA f)))] H := hP
  have hD : va_D A [(out, .inl (cL, 1, .inr (.inl o9_2))), (x, .inr (6, [.ref bf, .ref kb, .ref to, .ref ro, .ref fw, .ref sw, .ref na, .ref wo])), (ro, .inr (4, [.ref rc, .int (nI n), .int (nI bs)])), (rc, .inl (cI, 64, .inl (gA f)))] := hD
  refine lv_goto (tgt := 15) hx hb dL_at_9 (by decide) ?_
  refine lv_iconst (v := nI 0) hx hb dL_at_15 (by decide) ?_
  exact W.iret (v := (nI 0)) hx hb hr (fun t ht hW => ⟨⟨_, (o9_2), rfl, ⟨rfl, ho9⟩, gB2_end ht hW (hP.sub [1, 2, 3, 0] rfl) hK2 (hD.sub [1, 2, 3, 0] (by decide) rfl)⟩, hS.F ht⟩) hS.2.2 dL_at_16

set_option maxHeartbeats 4000000 in
set_option maxRecDepth 100000 in
/-- the law calls can: 0 -/
theorem w_L_can_0 (l : Launch) (hl0 : l.stackTraces = false) (dC : Nat → ClassId) (dI : Nat → Nat → Nat) (cI cL : ClassId) (tS : Nat) (sz : Nat) (x : Nat) (bf : Nat) (kb : Nat) (to : Nat) (ro : Nat) (fw : Nat) (sw : Nat) (na : Nat) (wo : Nat) (rc : Nat) (tc : Nat) (nc : Nat) (n : Nat) (bs : Nat) (tn : Nat) (k0 : Nat) (ci : Nat) (tw : Nat) (stt : Nat) (chd : Nat) (spr : Nat) (iw : Nat) (rp : Nat) (aw : Nat) (f0 : Nat → Nat) (out : Nat) (o0 : Nat → Int64) (hn : n ≤ 64) (hb1 : 2 ≤ bs) (hb2 : bs ≤ 65536) (htn : tn ≤ 64) : Met l yL_can wsL_can ({ frames := 3, cells := 0, slots := 0, locals := 65 }) (gPw dC dI cI cL tS [.ref x, .int (nI 0), .ref out] [(x, .inr (6, [.ref bf, .ref kb, .ref to, .ref ro, .ref fw, .ref sw, .ref na, .ref wo])), (ro, .inr (4, [.ref rc, .int (nI n), .int (nI bs)])), (to, .inr (1, [.ref tc, .int (nI tn)])), (fw, .inr (2, [.ref ci, .ref tw, .ref stt, .ref chd, .ref spr, .int (nI iw), .int (nI rp), .int (nI aw)])), (na, .inr (3, [.ref nc, .int (nI k0)])), (nc, .inl (cI, 17, .inl (gA f0))), (out, .inl (cL, 1, .inr (.inl o0)))] sz) (va_Qi (fun (r7 : Int32) (u : Nat × (Nat → Nat) × (Nat → Int64)) => r7 = (nI 0) ∧ (u.2.2 0 = lN (if 2 ≤ n ∧ 1000000 ≤ bs ^ n then 1 else 0))) (fun u t => gB2 dC dI cI cL (va_A [(x, .inr (6, [.ref bf, .ref kb, .ref to, .ref ro, .ref fw, .ref sw, .ref na, .ref wo])), (ro, .inr (4, [.ref rc, .int (nI n), .int (nI bs)])), (to, .inr (1, [.ref tc, .int (nI tn)])), (fw, .inr (2, [.ref ci, .ref tw, .ref stt, .ref chd, .ref spr, .int (nI iw), .int (nI rp), .int (nI aw)])), (na, .inr (3, [.ref nc, .int (nI k0)])), (nc, .inl (cI, 17, .inl (gA f0))), (out, .inl (cL, 1, .inr (.inl o0)))] sz) [(x, .inr (6, [.ref bf, .ref kb, .ref to, .ref ro, .ref fw, .ref sw, .ref na, .ref wo])), (ro, .inr (4, [.ref rc, .int (nI n), .int (nI bs)])), (to, .inr (1, [.ref tc, .int (nI tn)])), (fw, .inr (2, [.ref ci, .ref tw, .ref stt, .ref chd, .ref spr, .int (nI iw), .int (nI rp), .int (nI aw)])), (na, .inr (3, [.ref nc, .int (nI u.1)])), (nc, .inl (cI, 17, .inl (gA u.2.1))), (out, .inl (cL, 1, .inr (.inl u.2.2)))] t) (va_A [(x, .inr (6, [.ref bf, .ref kb, .ref to, .ref ro, .ref fw, .ref sw, .ref na, .ref wo])), (ro, .inr (4, [.ref rc, .int (nI n), .int (nI bs)])), (to, .inr (1, [.ref tc, .int (nI tn)])), (fw, .inr (2, [.ref ci, .ref tw, .ref stt, .ref chd, .ref spr, .int (nI iw), .int (nI rp), .int (nI aw)])), (na, .inr (3, [.ref nc, .int (nI k0)])), (nc, .inl (cI, 17, .inl (gA f0))), (out, .inl (cL, 1, .inr (.inl o0)))] sz)) 0 0 (va_A [(x, .inr (6, [.ref bf, .ref kb, .ref to, .ref ro, .ref fw, .ref sw, .ref na, .ref wo])), (ro, .inr (4, [.ref rc, .int (nI n), .int (nI bs)])), (to, .inr (1, [.ref tc, .int (nI tn)])), (fw, .inr (2, [.ref ci, .ref tw, .ref stt, .ref chd, .ref spr, .int (nI iw), .int (nI rp), .int (nI aw)])), (na, .inr (3, [.ref nc, .int (nI k0)])), (nc, .inl (cI, 17, .inl (gA f0))), (out, .inl (cL, 1, .inr (.inl o0)))] sz) := by
  refine va_MetW (cc := cL_can) (maxL := 4) (ret := (some .int)) (by decide) rfl ?_
  intro p e s m args below meth c s₁ B9 hml hv
  obtain ⟨rfl, hsz, ⟨hP, hK2, hD0⟩, hG⟩ := hv
  have hK := hK2.sub (tys' := [(cI, .int)]) [0] rfl
  have hx := B9.exec
  have hb := B9.bytes
  have hr := B9.returns
  have hts := atoms_spec (ws := wsL_can) B9.pre
  have htab := vx_table (x := yL_can) B9 (hts _ List.mem_cons_self)
  have hown : s.vm.findClass RL = some m.cls := findClass_of_methodNamed B9.named
  have hlocks := B9.notSynchronized
  subst hsz
  have hD := hD0.self (sz := s.heap.size)
  generalize hAe : va_A [(x, .inr (6, [.ref bf, .ref kb, .ref to, .ref ro, .ref fw, .ref sw, .ref na, .ref wo])), (ro, .inr (4, [.ref rc, .int (nI n), .int (nI bs)])), (to, .inr (1, [.ref tc, .int (nI tn)])), (fw, .inr (2, [.ref ci, .ref tw, .ref stt, .ref chd, .ref spr, .int (nI iw), .int (nI rp), .int (nI aw)])), (na, .inr (3, [.ref nc, .int (nI k0)])), (nc, .inl (cI, 17, .inl (gA f0))), (out, .inl (cL, 1, .inr (.inl o0)))] s.heap.size = A at hD hG ⊢
  have hE := hG.1
  have hA : ∀ q : Nat, s.heap.size ≤ q → A q := fun q h => by rw [← hAe]; exact Or.inr h
  have hS : va_S A s.heap s.heap [] := va_S.rf
  have hl := lv_entry ([.ref x, .int (nI 0), .ref out]) (n := 4) (Nat.le_of_ble_eq_true rfl)
  rw [lg_entry_eq]
  generalize (lg_sl ([.ref x, .int (nI 0), .ref out]) ++ List.replicate (4 - (lg_sl ([.ref x, .int (nI 0), .ref out])).length) Slot.unset).toArray = ls at hl ⊢
  have hl : lv_has ls 4 [(0, .ref x), (1, .int (nI 0)), (2, .ref out)] := hl
  refine lv_aload_n hx hb dL_can_0 rfl (lv_at hl 2 rfl) ?_
  refine lv_iconst (v := nI 0) hx hb dL_can_1 (by decide) ?_
  refine lv_aload_n hx hb dL_can_2 rfl (lv_at hl 0 rfl) ?_
  refine lv_iload_n hx hb dL_can_3 rfl (lv_at hl 1 rfl) ?_
  have hPc := hP.sub (ws' := [(x, .inr (6, [.ref bf, .ref kb, .ref to, .ref ro, .ref fw, .ref sw, .ref na, .ref wo])), (ro, .inr (4, [.ref rc, .int (nI n), .int (nI bs)])), (to, .inr (1, [.ref tc, .int (nI tn)])), (fw, .inr (2, [.ref ci, .ref tw, .ref stt, .ref chd, .ref spr, .int (nI iw), .int (nI rp), .int (nI aw)])), (na, .inr (3, [.ref nc, .int (nI k0)])), (nc, .inl (cI, 17, .inl (gA f0)))]) [0, 1, 2, 3, 4, 5] rfl
  have hDc := hD.sub (ws' := [(x, .inr (6, [.ref bf, .ref kb, .ref to, .ref ro, .ref fw, .ref sw, .ref na, .ref wo])), (ro, .inr (4, [.ref rc, .int (nI n), .int (nI bs)])), (to, .inr (1, [.ref tc, .int (nI tn)])), (fw, .inr (2, [.ref ci, .ref tw, .ref stt, .ref chd, .ref spr, .int (nI iw), .int (nI rp), .int (nI aw)])), (na, .inr (3, [.ref nc, .int (nI k0)])), (nc, .inl (cI, 17, .inl (gA f0)))]) [0, 1, 2, 3, 4, 5] (by decide) rfl
  have hFc := va_free (wc := [(x, .inr (6, [.ref bf, .ref kb, .ref to, .ref ro, .ref fw, .ref sw, .ref na, .ref wo])), (ro, .inr (4, [.ref rc, .int (nI n), .int (nI bs)])), (to, .inr (1, [.ref tc, .int (nI tn)])), (fw, .inr (2, [.ref ci, .ref tw, .ref stt, .ref chd, .ref spr, .int (nI iw), .int (nI rp), .int (nI aw)])), (na, .inr (3, [.ref nc, .int (nI k0)])), (nc, .inl (cI, 17, .inl (gA f0)))]) hD hS hA [0, 1, 2, 3, 4, 5] rfl
  refine va_calli (va_runV (As := [.int (nI 0)]) (rest := [.int (nI 0), .ref out]) ⟨hx, hb, hml, hown, hts⟩ (c_X7_can_0 l dC dI cI tS s.heap.size x bf kb to ro fw sw na wo rc tc nc n bs tn k0 ci tw stt chd spr iw rp aw f0 hn hb1 hb2 htn) (cwV 1 hts gL_can_X7_can rfl rfl rfl (by decide +kernel) ⟨Nat.le_of_ble_eq_true rfl, Nat.le_of_ble_eq_true rfl⟩) ⟨gPe_blind, va_recv hK hPc (ci := 6) (q0 := 0) rfl rfl, gPe_pre hPc hK hDc (hE.at hS) hFc⟩ rfl rfl hl.1 rfl (lv_room (Nat.le_of_ble_eq_true rfl)) dL_can_4 ⟨Nat.zero_le _, Nat.zero_le _⟩) hS (fun q _ h => hFc q h) hFc (fun r9 u8 t8 H1 locs ht hvm hw hB hz1 hk1 hS => ?_)
  obtain ⟨m9_1, f9_1⟩ := u8
  try dsimp only at hw hB
  obtain ⟨hP, hD⟩ := gB_join (wr := [(out, .inl (cL, 1, .inr (.inl o0)))]) (w2 := [(out, .inl (cL, 1, .inr (.inl o0))), (x, .inr (6, [.ref bf, .ref kb, .ref to, .ref ro, .ref fw, .ref sw, .ref na, .ref wo])), (ro, .inr (4, [.ref rc, .int (nI n), .int (nI bs)])), (to, .inr (1, [.ref tc, .int (nI tn)])), (fw, .inr (2, [.ref ci, .ref tw, .ref stt, .ref chd, .ref spr, .int (nI iw), .int (nI rp), .int (nI aw)])), (na, .inr (3, [.ref nc, .int (nI m9_1)])), (nc, .inl (cI, 17, .inl (gA f9_1)))]) hP hD [0, 1, 2, 3, 4, 5] [6] rfl rfl (by decide) (by decide) hk1 hFc ht hB rfl
  clear hk1 hz1 ht hB hvm hPc hDc hFc
  generalize H1 = H at hP hS ⊢
  subst hw
  refine gw_lab (G := fun R args Q =>  ∀ (H : Heap) (locs : List Loc), va_P (dC, dI) vwCl [(out, .inl (cL, 1, .inr (.inl o0))), (x, .inr (6, [.ref bf, .ref kb, .ref to, .ref ro, .ref fw, .ref sw, .ref na, .ref wo])), (ro, .inr (4, [.ref rc, .int (nI n), .int (nI bs)])), (to, .inr (1, [.ref tc, .int (nI tn)])), (fw, .inr (2, [.ref ci, .ref tw, .ref stt, .ref chd, .ref spr, .int (nI iw), .int (nI rp), .int (nI aw)])), (na, .inr (3, [.ref nc, .int (nI m9_1)])), (nc, .inl (cI, 17, .inl (gA f9_1)))] H → va_D A [(out, .inl (cL, 1, .inr (.inl o0))), (x, .inr (6, [.ref bf, .ref kb, .ref to, .ref ro, .ref fw, .ref sw, .ref na, .ref wo])), (ro, .inr (4, [.ref rc, .int (nI n), .int (nI bs)])), (to, .inr (1, [.ref tc, .int (nI tn)])), (fw, .inr (2, [.ref ci, .ref tw, .ref stt, .ref chd, .ref spr, .int (nI iw), .int (nI rp), .int (nI aw)])), (na, .inr (3, [.ref nc, .int (nI m9_1)])), (nc, .inl (cI, 17, .inl (gA f9_1)))] → va_S A s.heap H locs → ∀ (ls : Array Slot), lv_has ls 4 [(0, .ref x), (1, .int (nI 0)), (2, .ref out)] → W p l e R s m args below meth c H locs 0 0 Q (F0 m 15 ls [.long (lN (if 2 ≤ n ∧ 1000000 ≤ bs ^ n then 1 else 0)), .int (nI 0), .ref out])) ?_ (fun L15 => ?_)
  ·
    intro  H locs hP hD hS ls hl
    refine va_last hx hb hK2 hP hD hS 0 1 rfl rfl (vp_in_nI (by decide) (by decide)) dL_can_15 (fun H locs hP hD hS => ?_)
    obtain ⟨o9_2, ho9_2⟩ : ∃ z : Nat → Int64, z = vp_updL o0 (nI 0).toNatClampNeg (lN (if 2 ≤ n ∧ 1000000 ≤ bs ^ n then 1 else 0)) := ⟨_, rfl⟩
    rw [← ho9_2] at hP hD
    have ho9 : o9_2 0 = (lN (if 2 ≤ n ∧ 1000000 ≤ bs ^ n then 1 else 0)) := by rw [ho9_2]; exact if_pos rfl
    have hP : va_P (dC, dI) vwCl [(out, .inl (cL, 1, .inr (.inl o9_2))), (x, .inr (6, [.ref bf, .ref kb, .ref to, .ref ro, .ref fw, .ref sw, .ref na, .ref wo])), (ro, .inr (4, [.ref rc, .int (nI n), .int (nI bs)])), (to, .inr (1, [.ref tc, .int (nI tn)])), (fw, .inr (2, [.ref ci, .ref tw, .ref stt, .ref chd, .ref spr, .int (nI iw), .int (nI rp), .int (nI aw)])), (na, .inr (3, [.ref nc, .int (nI m9_1)])), (nc, .inl (cI, 17, .inl (gA f9_1)))] H := hP
    have hD : va_D A [(out, .inl (cL, 1, .inr (.inl o9_2))), (x, .inr (6, [.ref bf, .ref kb, .ref to, .ref ro, .ref fw, .ref sw, .ref na, .ref wo])), (ro, .inr (4, [.ref rc, .int (nI n), .int (nI bs)])), (to, .inr (1, [.ref tc, .int (nI tn)])), (fw, .inr (2, [.ref ci, .ref tw, .ref stt, .ref chd, .ref spr, .int (nI iw), .int (nI rp), .int (nI aw)])), (na, .inr (3, [.ref nc, .int (nI m9_1)])), (nc, .inl (cI, 17, .inl (gA f9_1)))] := hD
    refine lv_goto (tgt := 22) hx hb dL_can_16 (by decide) ?_
    refine lv_iconst (v := nI 0) hx hb dL_can_22 (by decide) ?_
    exact W.iret (v := (nI 0)) hx hb hr (fun t ht hW => ⟨⟨_, (m9_1, f9_1, o9_2), rfl, ⟨rfl, ho9⟩, gB2_end ht hW (hP.sub [1, 2, 3, 4, 5, 6, 0] rfl) hK2 (hD.sub [1, 2, 3, 4, 5, 6, 0] (by decide) rfl)⟩, hS.F ht⟩) hS.2.2 dL_can_23
  refine gv_if_eq (tgt := 14) hx hb dL_can_7 (by decide) (by split <;> decide) (fun c_7 => ?_) (fun c_7 => ?_)
  ·
    refine lv_lconst (v := lN 0) hx hb dL_can_14 (by decide) ?_
    refine gv_topl (y := lN (if 2 ≤ n ∧ 1000000 ≤ bs ^ n then 1 else 0)) (congrArg lN c_7.symm) ?_
    exact L15   _ _ hP hD hS _ hl
  ·
    refine lv_lconst (v := lN 1) hx hb dL_can_10 (by decide) ?_
    refine gv_topl (y := lN (if 2 ≤ n ∧ 1000000 ≤ bs ^ n then 1 else 0)) (congrArg lN (ite_01 c_7)) ?_
    refine lv_goto (tgt := 15) hx hb dL_can_11 (by decide) ?_
    exact L15   _ _ hP hD hS _ hl

set_option maxHeartbeats 4000000 in
set_option maxRecDepth 100000 in
/-- the law calls turn: 0 -/
theorem w_L_turn_0 (l : Launch) (hl0 : l.stackTraces = false) (dC : Nat → ClassId) (dI : Nat → Nat → Nat) (cI cL : ClassId) (tS : Nat) (sz : Nat) (x : Nat) (bf : Nat) (kb : Nat) (to : Nat) (ro : Nat) (fw : Nat) (sw : Nat) (na : Nat) (wo : Nat) (rc : Nat) (tc : Nat) (nc : Nat) (ci : Nat) (tw : Nat) (stt : Nat) (chd : Nat) (spr : Nat) (sc : Nat) (mv : Nat) (iw : Nat) (rp : Nat) (aw : Nat) (r : Nat) (n : Nat) (bs : Nat) (tn : Nat) (k0 : Nat) (bk : Nat) (f : Nat → Nat) (tb : Nat → Nat) (tw0 : Nat → Nat) (st0 : Nat → Nat) (c0 : Nat → Nat) (p0 : Nat → Nat) (w : Nat → Nat) (v : Nat → Nat) (f0 : Nat → Nat) (Wk : Nat → Nat) (hr1 : 1 ≤ r) (hr2 : r ≤ 14) (hwk : ∀ k, k < 4 * (r + 1) → w k = pkf Wk k) (hW : ∀ j, j < 16 * (r + 1) → Wk j < 256) (hn2 : n ≤ 64) (hb1 : 2 ≤ bs) (hb2 : bs ≤ 65536) (htn : tn ≤ 32) (ht0 : ∀ j, tn ≤ j → j < 64 → tb j = 0) (htb : ∀ j, j < 64 → tb j < 256) (hbk : bk ≤ 1) (hd0 : ∀ q, q < n → f q < bs) (hyes : 2 ≤ n ∧ 1000000 ≤ bs ^ n) : Met l yL_turn wsL_turn ({ frames := 7, cells := 0, slots := 0, locals := 169 }) (gPw dC dI cI cL tS [.ref x, .int (nI 0), .int (nI bk)] [(x, .inr (6, [.ref bf, .ref kb, .ref to, .ref ro, .ref fw, .ref sw, .ref na, .ref wo])), (ro, .inr (4, [.ref rc, .int (nI n), .int (nI bs)])), (rc, .inl (cI, 64, .inl (gA f))), (to, .inr (1, [.ref tc, .int (nI tn)])), (tc, .inl (cI, 64, .inl (gA tb))), (fw, .inr (2, [.ref ci, .ref tw, .ref stt, .ref chd, .ref spr, .int (nI iw), .int (nI rp), .int (nI aw)])), (tw, .inl (cI, 8, .inl (gA tw0))), (stt, .inl (cI, 4, .inl (gA st0))), (chd, .inl (cI, 4, .inl (gA c0))), (spr, .inl (cI, 4, .inl (gA p0))), (ci, .inr (0, [.ref sc, .ref mv, .int (nI r)])), (sc, .inl (cI, 60, .inl (gA w))), (mv, .inl (cI, 4, .inl (gA v))), (na, .inr (3, [.ref nc, .int (nI k0)])), (nc, .inl (cI, 17, .inl (gA f0)))] sz) (va_Qi (fun (r7 : Int32) (u : (Nat → Nat) × (Nat → Nat) × (Nat → Nat) × (Nat → Nat) × (Nat → Nat) × Nat × (Nat → Nat)) => r7 = (nI 0)) (fun u t => gB2 dC dI cI cL (va_A [(x, .inr (6, [.ref bf, .ref kb, .ref to, .ref ro, .ref fw, .ref sw, .ref na, .ref wo])), (ro, .inr (4, [.ref rc, .int (nI n), .int (nI bs)])), (rc, .inl (cI, 64, .inl (gA f))), (to, .inr (1, [.ref tc, .int (nI tn)])), (tc, .inl (cI, 64, .inl (gA tb))), (fw, .inr (2, [.ref ci, .ref tw, .ref stt, .ref chd, .ref spr, .int (nI iw), .int (nI rp), .int (nI aw)])), (tw, .inl (cI, 8, .inl (gA tw0))), (stt, .inl (cI, 4, .inl (gA st0))), (chd, .inl (cI, 4, .inl (gA c0))), (spr, .inl (cI, 4, .inl (gA p0))), (ci, .inr (0, [.ref sc, .ref mv, .int (nI r)])), (sc, .inl (cI, 60, .inl (gA w))), (mv, .inl (cI, 4, .inl (gA v))), (na, .inr (3, [.ref nc, .int (nI k0)])), (nc, .inl (cI, 17, .inl (gA f0)))] sz) [(x, .inr (6, [.ref bf, .ref kb, .ref to, .ref ro, .ref fw, .ref sw, .ref na, .ref wo])), (ro, .inr (4, [.ref rc, .int (nI n), .int (nI bs)])), (rc, .inl (cI, 64, .inl (gA (fei (FF1 Wk r bs n tn tb) 0 (n / 2) (n - n / 2) bk bs 10 f 10)))), (to, .inr (1, [.ref tc, .int (nI tn)])), (tc, .inl (cI, 64, .inl (gA tb))), (fw, .inr (2, [.ref ci, .ref tw, .ref stt, .ref chd, .ref spr, .int (nI (ff1iw bs n tn)), .int (nI (ff1rp bs n tn)), .int (nI (ff1aw bs n))])), (tw, .inl (cI, 8, .inl (gA u.1))), (stt, .inl (cI, 4, .inl (gA u.2.1))), (chd, .inl (cI, 4, .inl (gA u.2.2.1))), (spr, .inl (cI, 4, .inl (gA u.2.2.2.1))), (ci, .inr (0, [.ref sc, .ref mv, .int (nI r)])), (sc, .inl (cI, 60, .inl (gA w))), (mv, .inl (cI, 4, .inl (gA u.2.2.2.2.1))), (na, .inr (3, [.ref nc, .int (nI u.2.2.2.2.2.1)])), (nc, .inl (cI, 17, .inl (gA u.2.2.2.2.2.2)))] t) (va_A [(x, .inr (6, [.ref bf, .ref kb, .ref to, .ref ro, .ref fw, .ref sw, .ref na, .ref wo])), (ro, .inr (4, [.ref rc, .int (nI n), .int (nI bs)])), (rc, .inl (cI, 64, .inl (gA f))), (to, .inr (1, [.ref tc, .int (nI tn)])), (tc, .inl (cI, 64, .inl (gA tb))), (fw, .inr (2, [.ref ci, .ref tw, .ref stt, .ref chd, .ref spr, .int (nI iw), .int (nI rp), .int (nI aw)])), (tw, .inl (cI, 8, .inl (gA tw0))), (stt, .inl (cI, 4, .inl (gA st0))), (chd, .inl (cI, 4, .inl (gA c0))), (spr, .inl (cI, 4, .inl (gA p0))), (ci, .inr (0, [.ref sc, .ref mv, .int (nI r)])), (sc, .inl (cI, 60, .inl (gA w))), (mv, .inl (cI, 4, .inl (gA v))), (na, .inr (3, [.ref nc, .int (nI k0)])), (nc, .inl (cI, 17, .inl (gA f0)))] sz)) 0 0 (va_A [(x, .inr (6, [.ref bf, .ref kb, .ref to, .ref ro, .ref fw, .ref sw, .ref na, .ref wo])), (ro, .inr (4, [.ref rc, .int (nI n), .int (nI bs)])), (rc, .inl (cI, 64, .inl (gA f))), (to, .inr (1, [.ref tc, .int (nI tn)])), (tc, .inl (cI, 64, .inl (gA tb))), (fw, .inr (2, [.ref ci, .ref tw, .ref stt, .ref chd, .ref spr, .int (nI iw), .int (nI rp), .int (nI aw)])), (tw, .inl (cI, 8, .inl (gA tw0))), (stt, .inl (cI, 4, .inl (gA st0))), (chd, .inl (cI, 4, .inl (gA c0))), (spr, .inl (cI, 4, .inl (gA p0))), (ci, .inr (0, [.ref sc, .ref mv, .int (nI r)])), (sc, .inl (cI, 60, .inl (gA w))), (mv, .inl (cI, 4, .inl (gA v))), (na, .inr (3, [.ref nc, .int (nI k0)])), (nc, .inl (cI, 17, .inl (gA f0)))] sz) := by
  refine va_MetW (cc := cL_turn) (maxL := 4) (ret := (some .int)) (by decide) rfl ?_
  intro p e s m args below meth c s₁ B9 hml hv
  obtain ⟨rfl, hsz, ⟨hP, hK2, hD0⟩, hG⟩ := hv
  have hK := hK2.sub (tys' := [(cI, .int)]) [0] rfl
  have hx := B9.exec
  have hb := B9.bytes
  have hr := B9.returns
  have hts := atoms_spec (ws := wsL_turn) B9.pre
  have htab := vx_table (x := yL_turn) B9 (hts _ List.mem_cons_self)
  have hown : s.vm.findClass RL = some m.cls := findClass_of_methodNamed B9.named
  have hlocks := B9.notSynchronized
  subst hsz
  have hD := hD0.self (sz := s.heap.size)
  generalize hAe : va_A [(x, .inr (6, [.ref bf, .ref kb, .ref to, .ref ro, .ref fw, .ref sw, .ref na, .ref wo])), (ro, .inr (4, [.ref rc, .int (nI n), .int (nI bs)])), (rc, .inl (cI, 64, .inl (gA f))), (to, .inr (1, [.ref tc, .int (nI tn)])), (tc, .inl (cI, 64, .inl (gA tb))), (fw, .inr (2, [.ref ci, .ref tw, .ref stt, .ref chd, .ref spr, .int (nI iw), .int (nI rp), .int (nI aw)])), (tw, .inl (cI, 8, .inl (gA tw0))), (stt, .inl (cI, 4, .inl (gA st0))), (chd, .inl (cI, 4, .inl (gA c0))), (spr, .inl (cI, 4, .inl (gA p0))), (ci, .inr (0, [.ref sc, .ref mv, .int (nI r)])), (sc, .inl (cI, 60, .inl (gA w))), (mv, .inl (cI, 4, .inl (gA v))), (na, .inr (3, [.ref nc, .int (nI k0)])), (nc, .inl (cI, 17, .inl (gA f0)))] s.heap.size = A at hD hG ⊢
  have hE := hG.1
  have hA : ∀ q : Nat, s.heap.size ≤ q → A q := fun q h => by rw [← hAe]; exact Or.inr h
  have hS : va_S A s.heap s.heap [] := va_S.rf
  have hl := lv_entry ([.ref x, .int (nI 0), .int (nI bk)]) (n := 4) (Nat.le_of_ble_eq_true rfl)
  rw [lg_entry_eq]
  generalize (lg_sl ([.ref x, .int (nI 0), .int (nI bk)]) ++ List.replicate (4 - (lg_sl ([.ref x, .int (nI 0), .int (nI bk)])).length) Slot.unset).toArray = ls at hl ⊢
  have hl : lv_has ls 4 [(0, .ref x), (1, .int (nI 0)), (2, .int (nI bk))] := hl
  refine lv_aload_n hx hb dL_turn_0 rfl (lv_at hl 0 rfl) ?_
  refine lv_iload_n hx hb dL_turn_1 rfl (lv_at hl 1 rfl) ?_
  refine lv_iload_n hx hb dL_turn_2 rfl (lv_at hl 2 rfl) ?_
  have hPc := hP.sub (ws' := [(x, .inr (6, [.ref bf, .ref kb, .ref to, .ref ro, .ref fw, .ref sw, .ref na, .ref wo])), (ro, .inr (4, [.ref rc, .int (nI n), .int (nI bs)])), (rc, .inl (cI, 64, .inl (gA f))), (to, .inr (1, [.ref tc, .int (nI tn)])), (tc, .inl (cI, 64, .inl (gA tb))), (fw, .inr (2, [.ref ci, .ref tw, .ref stt, .ref chd, .ref spr, .int (nI iw), .int (nI rp), .int (nI aw)])), (tw, .inl (cI, 8, .inl (gA tw0))), (stt, .inl (cI, 4, .inl (gA st0))), (chd, .inl (cI, 4, .inl (gA c0))), (spr, .inl (cI, 4, .inl (gA p0))), (ci, .inr (0, [.ref sc, .ref mv, .int (nI r)])), (sc, .inl (cI, 60, .inl (gA w))), (mv, .inl (cI, 4, .inl (gA v))), (na, .inr (3, [.ref nc, .int (nI k0)])), (nc, .inl (cI, 17, .inl (gA f0)))]) [0, 1, 2, 3, 4, 5, 6, 7, 8, 9, 10, 11, 12, 13, 14] rfl
  have hDc := hD.sub (ws' := [(x, .inr (6, [.ref bf, .ref kb, .ref to, .ref ro, .ref fw, .ref sw, .ref na, .ref wo])), (ro, .inr (4, [.ref rc, .int (nI n), .int (nI bs)])), (rc, .inl (cI, 64, .inl (gA f))), (to, .inr (1, [.ref tc, .int (nI tn)])), (tc, .inl (cI, 64, .inl (gA tb))), (fw, .inr (2, [.ref ci, .ref tw, .ref stt, .ref chd, .ref spr, .int (nI iw), .int (nI rp), .int (nI aw)])), (tw, .inl (cI, 8, .inl (gA tw0))), (stt, .inl (cI, 4, .inl (gA st0))), (chd, .inl (cI, 4, .inl (gA c0))), (spr, .inl (cI, 4, .inl (gA p0))), (ci, .inr (0, [.ref sc, .ref mv, .int (nI r)])), (sc, .inl (cI, 60, .inl (gA w))), (mv, .inl (cI, 4, .inl (gA v))), (na, .inr (3, [.ref nc, .int (nI k0)])), (nc, .inl (cI, 17, .inl (gA f0)))]) [0, 1, 2, 3, 4, 5, 6, 7, 8, 9, 10, 11, 12, 13, 14] (by decide) rfl
  have hFc := va_free (wc := [(x, .inr (6, [.ref bf, .ref kb, .ref to, .ref ro, .ref fw, .ref sw, .ref na, .ref wo])), (ro, .inr (4, [.ref rc, .int (nI n), .int (nI bs)])), (rc, .inl (cI, 64, .inl (gA f))), (to, .inr (1, [.ref tc, .int (nI tn)])), (tc, .inl (cI, 64, .inl (gA tb))), (fw, .inr (2, [.ref ci, .ref tw, .ref stt, .ref chd, .ref spr, .int (nI iw), .int (nI rp), .int (nI aw)])), (tw, .inl (cI, 8, .inl (gA tw0))), (stt, .inl (cI, 4, .inl (gA st0))), (chd, .inl (cI, 4, .inl (gA c0))), (spr, .inl (cI, 4, .inl (gA p0))), (ci, .inr (0, [.ref sc, .ref mv, .int (nI r)])), (sc, .inl (cI, 60, .inl (gA w))), (mv, .inl (cI, 4, .inl (gA v))), (na, .inr (3, [.ref nc, .int (nI k0)])), (nc, .inl (cI, 17, .inl (gA f0)))]) hD hS hA [0, 1, 2, 3, 4, 5, 6, 7, 8, 9, 10, 11, 12, 13, 14] rfl
  refine va_callv (va_runV (As := [.int (nI 0), .int (nI bk)]) (rest := []) ⟨hx, hb, hml, hown, hts⟩ (c_X7_turn_0 l dC dI cI tS s.heap.size x bf kb to ro fw sw na wo rc tc nc ci tw stt chd spr sc mv iw rp aw r n bs tn k0 bk f tb tw0 st0 c0 p0 w v f0 Wk hr1 hr2 hwk hW hn2 hb1 hb2 htn ht0 htb hbk hd0 hyes) (cwV 2 hts gL_turn_X7_turn rfl rfl rfl (by decide +kernel) ⟨Nat.le_of_ble_eq_true rfl, Nat.le_of_ble_eq_true rfl⟩) ⟨gPe_blind, va_recv hK hPc (ci := 6) (q0 := 0) rfl rfl, gPe_pre hPc hK hDc (hE.at hS) hFc⟩ rfl rfl hl.1 rfl (lv_room (Nat.le_of_ble_eq_true rfl)) dL_turn_3 ⟨Nat.zero_le _, Nat.zero_le _⟩) hS (fun q _ h => hFc q h) hFc (fun u8 t8 H1 locs ht hvm hw hB hz1 hk1 hS => ?_)
  obtain ⟨tw9_1, st9_1, c9_1, p9_1, v9_1, m9_1, f9_1⟩ := u8
  try dsimp only at hw hB
  obtain ⟨hP, hD⟩ := gB_join (wr := []) (w2 := [(x, .inr (6, [.ref bf, .ref kb, .ref to, .ref ro, .ref fw, .ref sw, .ref na, .ref wo])), (ro, .inr (4, [.ref rc, .int (nI n), .int (nI bs)])), (rc, .inl (cI, 64, .inl (gA (fei (FF1 Wk r bs n tn tb) 0 (n / 2) (n - n / 2) bk bs 10 f 10)))), (to, .inr (1, [.ref tc, .int (nI tn)])), (tc, .inl (cI, 64, .inl (gA tb))), (fw, .inr (2, [.ref ci, .ref tw, .ref stt, .ref chd, .ref spr, .int (nI (ff1iw bs n tn)), .int (nI (ff1rp bs n tn)), .int (nI (ff1aw bs n))])), (tw, .inl (cI, 8, .inl (gA tw9_1))), (stt, .inl (cI, 4, .inl (gA st9_1))), (chd, .inl (cI, 4, .inl (gA c9_1))), (spr, .inl (cI, 4, .inl (gA p9_1))), (ci, .inr (0, [.ref sc, .ref mv, .int (nI r)])), (sc, .inl (cI, 60, .inl (gA w))), (mv, .inl (cI, 4, .inl (gA v9_1))), (na, .inr (3, [.ref nc, .int (nI m9_1)])), (nc, .inl (cI, 17, .inl (gA f9_1)))]) hP hD [0, 1, 2, 3, 4, 5, 6, 7, 8, 9, 10, 11, 12, 13, 14] [] rfl rfl (by decide) (by decide) hk1 hFc ht hB rfl
  clear hk1 hz1 ht hB hvm hPc hDc hFc
  generalize H1 = H at hP hS ⊢
  refine lv_goto (tgt := 15) hx hb dL_turn_6 (by decide) ?_
  refine lv_iconst (v := nI 0) hx hb dL_turn_15 (by decide) ?_
  exact W.iret (v := (nI 0)) hx hb hr (fun t ht hW => ⟨⟨_, (tw9_1, st9_1, c9_1, p9_1, v9_1, m9_1, f9_1), rfl, rfl, gB2_end ht hW hP hK2 hD⟩, hS.F ht⟩) hS.2.2 dL_turn_16

set_option maxHeartbeats 4000000 in
set_option maxRecDepth 100000 in
/-- the law calls can: 1 -/
theorem w_L_can_1 (l : Launch) (hl0 : l.stackTraces = false) (dC : Nat → ClassId) (dI : Nat → Nat → Nat) (cI cL : ClassId) (tS : Nat) (sz : Nat) (x : Nat) (bf : Nat) (kb : Nat) (to : Nat) (ro : Nat) (fw : Nat) (sw : Nat) (na : Nat) (wo : Nat) (rc : Nat) (tc : Nat) (nc : Nat) (n : Nat) (bs : Nat) (tn : Nat) (k0 : Nat) (ci2 : Nat) (tu : Nat) (lf : Nat) (rt : Nat) (f0 : Nat → Nat) (out : Nat) (o0 : Nat → Int64) (hn : n ≤ 64) (hb1 : 2 ≤ bs) (hb2 : bs ≤ 65536) (htn : tn ≤ 64) : Met l yL_can wsL_can ({ frames := 7, cells := 0, slots := 0, locals := 158 }) (gPw dC dI cI cL tS [.ref x, .int (nI 1), .ref out] [(x, .inr (6, [.ref bf, .ref kb, .ref to, .ref ro, .ref fw, .ref sw, .ref na, .ref wo])), (ro, .inr (4, [.ref rc, .int (nI n), .int (nI bs)])), (to, .inr (1, [.ref tc, .int (nI tn)])), (sw, .inr (5, [.ref ci2, .ref tu, .int (nI lf), .int (nI rt)])), (na, .inr (3, [.ref nc, .int (nI k0)])), (nc, .inl (cI, 17, .inl (gA f0))), (out, .inl (cL, 1, .inr (.inl o0)))] sz) (va_Qi (fun (r7 : Int32) (u : Nat × (Nat → Nat) × (Nat → Int64)) => r7 = (nI 0) ∧ (u.2.2 0 = lN (if (2 ≤ n ∧ 1000000 ≤ bs ^ n) ∧ (tn = 7 ∧ bl (bs ^ (n - n / 2) - 1) ≤ 12) then 1 else 0))) (fun u t => gB2 dC dI cI cL (va_A [(x, .inr (6, [.ref bf, .ref kb, .ref to, .ref ro, .ref fw, .ref sw, .ref na, .ref wo])), (ro, .inr (4, [.ref rc, .int (nI n), .int (nI bs)])), (to, .inr (1, [.ref tc, .int (nI tn)])), (sw, .inr (5, [.ref ci2, .ref tu, .int (nI lf), .int (nI rt)])), (na, .inr (3, [.ref nc, .int (nI k0)])), (nc, .inl (cI, 17, .inl (gA f0))), (out, .inl (cL, 1, .inr (.inl o0)))] sz) [(x, .inr (6, [.ref bf, .ref kb, .ref to, .ref ro, .ref fw, .ref sw, .ref na, .ref wo])), (ro, .inr (4, [.ref rc, .int (nI n), .int (nI bs)])), (to, .inr (1, [.ref tc, .int (nI tn)])), (sw, .inr (5, [.ref ci2, .ref tu, .int (nI lf), .int (nI rt)])), (na, .inr (3, [.ref nc, .int (nI u.1)])), (nc, .inl (cI, 17, .inl (gA u.2.1))), (out, .inl (cL, 1, .inr (.inl u.2.2)))] t) (va_A [(x, .inr (6, [.ref bf, .ref kb, .ref to, .ref ro, .ref fw, .ref sw, .ref na, .ref wo])), (ro, .inr (4, [.ref rc, .int (nI n), .int (nI bs)])), (to, .inr (1, [.ref tc, .int (nI tn)])), (sw, .inr (5, [.ref ci2, .ref tu, .int (nI lf), .int (nI rt)])), (na, .inr (3, [.ref nc, .int (nI k0)])), (nc, .inl (cI, 17, .inl (gA f0))), (out, .inl (cL, 1, .inr (.inl o0)))] sz)) 0 0 (va_A [(x, .inr (6, [.ref bf, .ref kb, .ref to, .ref ro, .ref fw, .ref sw, .ref na, .ref wo])), (ro, .inr (4, [.ref rc, .int (nI n), .int (nI bs)])), (to, .inr (1, [.ref tc, .int (nI tn)])), (sw, .inr (5, [.ref ci2, .ref tu, .int (nI lf), .int (nI rt)])), (na, .inr (3, [.ref nc, .int (nI k0)])), (nc, .inl (cI, 17, .inl (gA f0))), (out, .inl (cL, 1, .inr (.inl o0)))] sz) := by
  refine va_MetW (cc := cL_can) (maxL := 4) (ret := (some .int)) (by decide) rfl ?_
  intro p e s m args below meth c s₁ B9 hml hv
  obtain ⟨rfl, hsz, ⟨hP, hK2, hD0⟩, hG⟩ := hv
  have hK := hK2.sub (tys' := [(cI, .int)]) [0] rfl
  have hx := B9.exec
  have hb := B9.bytes
  have hr := B9.returns
  have hts := atoms_spec (ws := wsL_can) B9.pre
  have htab := vx_table (x := yL_can) B9 (hts _ List.mem_cons_self)
  have hown : s.vm.findClass RL = some m.cls := findClass_of_methodNamed B9.named
  have hlocks := B9.notSynchronized
  subst hsz
  have hD := hD0.self (sz := s.heap.size)
  generalize hAe : va_A [(x, .inr (6, [.ref bf, .ref kb, .ref to, .ref ro, .ref fw, .ref sw, .ref na, .ref wo])), (ro, .inr (4, [.ref rc, .int (nI n), .int (nI bs)])), (to, .inr (1, [.ref tc, .int (nI tn)])), (sw, .inr (5, [.ref ci2, .ref tu, .int (nI lf), .int (nI rt)])), (na, .inr (3, [.ref nc, .int (nI k0)])), (nc, .inl (cI, 17, .inl (gA f0))), (out, .inl (cL, 1, .inr (.inl o0)))] s.heap.size = A at hD hG ⊢
  have hE := hG.1
  have hA : ∀ q : Nat, s.heap.size ≤ q → A q := fun q h => by rw [← hAe]; exact Or.inr h
  have hS : va_S A s.heap s.heap [] := va_S.rf
  have hl := lv_entry ([.ref x, .int (nI 1), .ref out]) (n := 4) (Nat.le_of_ble_eq_true rfl)
  rw [lg_entry_eq]
  generalize (lg_sl ([.ref x, .int (nI 1), .ref out]) ++ List.replicate (4 - (lg_sl ([.ref x, .int (nI 1), .ref out])).length) Slot.unset).toArray = ls at hl ⊢
  have hl : lv_has ls 4 [(0, .ref x), (1, .int (nI 1)), (2, .ref out)] := hl
  refine lv_aload_n hx hb dL_can_0 rfl (lv_at hl 2 rfl) ?_
  refine lv_iconst (v := nI 0) hx hb dL_can_1 (by decide) ?_
  refine lv_aload_n hx hb dL_can_2 rfl (lv_at hl 0 rfl) ?_
  refine lv_iload_n hx hb dL_can_3 rfl (lv_at hl 1 rfl) ?_
  have hPc := hP.sub (ws' := [(x, .inr (6, [.ref bf, .ref kb, .ref to, .ref ro, .ref fw, .ref sw, .ref na, .ref wo])), (ro, .inr (4, [.ref rc, .int (nI n), .int (nI bs)])), (to, .inr (1, [.ref tc, .int (nI tn)])), (sw, .inr (5, [.ref ci2, .ref tu, .int (nI lf), .int (nI rt)])), (na, .inr (3, [.ref nc, .int (nI k0)])), (nc, .inl (cI, 17, .inl (gA f0)))]) [0, 1, 2, 3, 4, 5] rfl
  have hDc := hD.sub (ws' := [(x, .inr (6, [.ref bf, .ref kb, .ref to, .ref ro, .ref fw, .ref sw, .ref na, .ref wo])), (ro, .inr (4, [.ref rc, .int (nI n), .int (nI bs)])), (to, .inr (1, [.ref tc, .int (nI tn)])), (sw, .inr (5, [.ref ci2, .ref tu, .int (nI lf), .int (nI rt)])), (na, .inr (3, [.ref nc, .int (nI k0)])), (nc, .inl (cI, 17, .inl (gA f0)))]) [0, 1, 2, 3, 4, 5] (by decide) rfl
  have hFc := va_free (wc := [(x, .inr (6, [.ref bf, .ref kb, .ref to, .ref ro, .ref fw, .ref sw, .ref na, .ref wo])), (ro, .inr (4, [.ref rc, .int (nI n), .int (nI bs)])), (to, .inr (1, [.ref tc, .int (nI tn)])), (sw, .inr (5, [.ref ci2, .ref tu, .int (nI lf), .int (nI rt)])), (na, .inr (3, [.ref nc, .int (nI k0)])), (nc, .inl (cI, 17, .inl (gA f0)))]) hD hS hA [0, 1, 2, 3, 4, 5] rfl
  refine va_calli (va_runV (As := [.int (nI 1)]) (rest := [.int (nI 0), .ref out]) ⟨hx, hb, hml, hown, hts⟩ (c_X7_can_1 l dC dI cI tS s.heap.size x bf kb to ro fw sw na wo rc tc nc n bs tn k0 ci2 tu lf rt f0 hn hb1 hb2 htn) (cwV 1 hts gL_can_X7_can rfl rfl rfl (by decide +kernel) ⟨Nat.le_of_ble_eq_true rfl, Nat.le_of_ble_eq_true rfl⟩) ⟨gPe_blind, va_recv hK hPc (ci := 6) (q0 := 0) rfl rfl, gPe_pre hPc hK hDc (hE.at hS) hFc⟩ rfl rfl hl.1 rfl (lv_room (Nat.le_of_ble_eq_true rfl)) dL_can_4 ⟨Nat.zero_le _, Nat.zero_le _⟩) hS (fun q _ h => hFc q h) hFc (fun r9 u8 t8 H1 locs ht hvm hw hB hz1 hk1 hS => ?_)
  obtain ⟨m9_1, f9_1⟩ := u8
  try dsimp only at hw hB
  obtain ⟨hP, hD⟩ := gB_join (wr := [(out, .inl (cL, 1, .inr (.inl o0)))]) (w2 := [(out, .inl (cL, 1, .inr (.inl o0))), (x, .inr (6, [.ref bf, .ref kb, .ref to, .ref ro, .ref fw, .ref sw, .ref na, .ref wo])), (ro, .inr (4, [.ref rc, .int (nI n), .int (nI bs)])), (to, .inr (1, [.ref tc, .int (nI tn)])), (sw, .inr (5, [.ref ci2, .ref tu, .int (nI lf), .int (nI rt)])), (na, .inr (3, [.ref nc, .int (nI m9_1)])), (nc, .inl (cI, 17, .inl (gA f9_1)))]) hP hD [0, 1, 2, 3, 4, 5] [6] rfl rfl (by decide) (by decide) hk1 hFc ht hB rfl
  clear hk1 hz1 ht hB hvm hPc hDc hFc
  generalize H1 = H at hP hS ⊢
  subst hw
  refine gw_lab (G := fun R args Q =>  ∀ (H : Heap) (locs : List Loc), va_P (dC, dI) vwCl [(out, .inl (cL, 1, .inr (.inl o0))), (x, .inr (6, [.ref bf, .ref kb, .ref to, .ref ro, .ref fw, .ref sw, .ref na, .ref wo])), (ro, .inr (4, [.ref rc, .int (nI n), .int (nI bs)])), (to, .inr (1, [.ref tc, .int (nI tn)])), (sw, .inr (5, [.ref ci2, .ref tu, .int (nI lf), .int (nI rt)])), (na, .inr (3, [.ref nc, .int (nI m9_1)])), (nc, .inl (cI, 17, .inl (gA f9_1)))] H → va_D A [(out, .inl (cL, 1, .inr (.inl o0))), (x, .inr (6, [.ref bf, .ref kb, .ref to, .ref ro, .ref fw, .ref sw, .ref na, .ref wo])), (ro, .inr (4, [.ref rc, .int (nI n), .int (nI bs)])), (to, .inr (1, [.ref tc, .int (nI tn)])), (sw, .inr (5, [.ref ci2, .ref tu, .int (nI lf), .int (nI rt)])), (na, .inr (3, [.ref nc, .int (nI m9_1)])), (nc, .inl (cI, 17, .inl (gA f9_1)))] → va_S A s.heap H locs → ∀ (ls : Array Slot), lv_has ls 4 [(0, .ref x), (1, .int (nI 1)), (2, .ref out)] → W p l e R s m args below meth c H locs 0 0 Q (F0 m 15 ls [.long (lN (if (2 ≤ n ∧ 1000000 ≤ bs ^ n) ∧ (tn = 7 ∧ bl (bs ^ (n - n / 2) - 1) ≤ 12) then 1 else 0)), .int (nI 0), .ref out])) ?_ (fun L15 => ?_)
  ·
    intro  H locs hP hD hS ls hl
    refine va_last hx hb hK2 hP hD hS 0 1 rfl rfl (vp_in_nI (by decide) (by decide)) dL_can_15 (fun H locs hP hD hS => ?_)
    obtain ⟨o9_2, ho9_2⟩ : ∃ z : Nat → Int64, z = vp_updL o0 (nI 0).toNatClampNeg (lN (if (2 ≤ n ∧ 1000000 ≤ bs ^ n) ∧ (tn = 7 ∧ bl (bs ^ (n - n / 2) - 1) ≤ 12) then 1 else 0)) := ⟨_, rfl⟩
    rw [← ho9_2] at hP hD
    have ho9 : o9_2 0 = (lN (if (2 ≤ n ∧ 1000000 ≤ bs ^ n) ∧ (tn = 7 ∧ bl (bs ^ (n - n / 2) - 1) ≤ 12) then 1 else 0)) := by rw [ho9_2]; exact if_pos rfl
    have hP : va_P (dC, dI) vwCl [(out, .inl (cL, 1, .inr (.inl o9_2))), (x, .inr (6, [.ref bf, .ref kb, .ref to, .ref ro, .ref fw, .ref sw, .ref na, .ref wo])), (ro, .inr (4, [.ref rc, .int (nI n), .int (nI bs)])), (to, .inr (1, [.ref tc, .int (nI tn)])), (sw, .inr (5, [.ref ci2, .ref tu, .int (nI lf), .int (nI rt)])), (na, .inr (3, [.ref nc, .int (nI m9_1)])), (nc, .inl (cI, 17, .inl (gA f9_1)))] H := hP
    have hD : va_D A [(out, .inl (cL, 1, .inr (.inl o9_2))), (x, .inr (6, [.ref bf, .ref kb, .ref to, .ref ro, .ref fw, .ref sw, .ref na, .ref wo])), (ro, .inr (4, [.ref rc, .int (nI n), .int (nI bs)])), (to, .inr (1, [.ref tc, .int (nI tn)])), (sw, .inr (5, [.ref ci2, .ref tu, .int (nI lf), .int (nI rt)])), (na, .inr (3, [.ref nc, .int (nI m9_1)])), (nc, .inl (cI, 17, .inl (gA f9_1)))] := hD
    refine lv_goto (tgt := 22) hx hb dL_can_16 (by decide) ?_
    refine lv_iconst (v := nI 0) hx hb dL_can_22 (by decide) ?_
    exact W.iret (v := (nI 0)) hx hb hr (fun t ht hW => ⟨⟨_, (m9_1, f9_1, o9_2), rfl, ⟨rfl, ho9⟩, gB2_end ht hW (hP.sub [1, 2, 3, 4, 5, 6, 0] rfl) hK2 (hD.sub [1, 2, 3, 4, 5, 6, 0] (by decide) rfl)⟩, hS.F ht⟩) hS.2.2 dL_can_23
  refine gv_if_eq (tgt := 14) hx hb dL_can_7 (by decide) (by split <;> decide) (fun c_7 => ?_) (fun c_7 => ?_)
  ·
    refine lv_lconst (v := lN 0) hx hb dL_can_14 (by decide) ?_
    refine gv_topl (y := lN (if (2 ≤ n ∧ 1000000 ≤ bs ^ n) ∧ (tn = 7 ∧ bl (bs ^ (n - n / 2) - 1) ≤ 12) then 1 else 0)) (congrArg lN c_7.symm) ?_
    exact L15   _ _ hP hD hS _ hl
  ·
    refine lv_lconst (v := lN 1) hx hb dL_can_10 (by decide) ?_
    refine gv_topl (y := lN (if (2 ≤ n ∧ 1000000 ≤ bs ^ n) ∧ (tn = 7 ∧ bl (bs ^ (n - n / 2) - 1) ≤ 12) then 1 else 0)) (congrArg lN (ite_01 c_7)) ?_
    refine lv_goto (tgt := 15) hx hb dL_can_11 (by decide) ?_
    exact L15   _ _ hP hD hS _ hl

set_option maxHeartbeats 4000000 in
set_option maxRecDepth 100000 in
/-- the law calls turn: 1 -/
theorem w_L_turn_1 (l : Launch) (hl0 : l.stackTraces = false) (dC : Nat → ClassId) (dI : Nat → Nat → Nat) (cI cL : ClassId) (tS : Nat) (sz : Nat) (x : Nat) (bf : Nat) (kb : Nat) (to : Nat) (ro : Nat) (fw : Nat) (sw : Nat) (na : Nat) (wo : Nat) (rc : Nat) (tc : Nat) (nc : Nat) (ci : Nat) (tu : Nat) (sc : Nat) (mv : Nat) (lf : Nat) (rt : Nat) (r : Nat) (n : Nat) (bs : Nat) (tn : Nat) (k0 : Nat) (bk : Nat) (f : Nat → Nat) (tb : Nat → Nat) (t0 : Nat → Nat) (w : Nat → Nat) (v : Nat → Nat) (f0 : Nat → Nat) (Wk : Nat → Nat) (hr1 : 1 ≤ r) (hr2 : r ≤ 14) (hwk : ∀ k, k < 4 * (r + 1) → w k = pkf Wk k) (hW : ∀ j, j < 16 * (r + 1) → Wk j < 256) (hn2 : n ≤ 64) (hb1 : 2 ≤ bs) (hb2 : bs ≤ 65536) (htn : tn ≤ 32) (ht0 : ∀ j, tn ≤ j → j < 64 → tb j = 0) (htb : ∀ j, j < 64 → tb j < 256) (hbk : bk ≤ 1) (hd0 : ∀ q, q < n → f q < bs) (hyes : (2 ≤ n ∧ 1000000 ≤ bs ^ n) ∧ (tn = 7 ∧ bl (bs ^ (n - n / 2) - 1) ≤ 12)) : Met l yL_turn wsL_turn ({ frames := 7, cells := 0, slots := 0, locals := 159 }) (gPw dC dI cI cL tS [.ref x, .int (nI 1), .int (nI bk)] [(x, .inr (6, [.ref bf, .ref kb, .ref to, .ref ro, .ref fw, .ref sw, .ref na, .ref wo])), (ro, .inr (4, [.ref rc, .int (nI n), .int (nI bs)])), (rc, .inl (cI, 64, .inl (gA f))), (to, .inr (1, [.ref tc, .int (nI tn)])), (tc, .inl (cI, 64, .inl (gA tb))), (sw, .inr (5, [.ref ci, .ref tu, .int (nI lf), .int (nI rt)])), (tu, .inl (cI, 4, .inl (gA t0))), (ci, .inr (0, [.ref sc, .ref mv, .int (nI r)])), (sc, .inl (cI, 60, .inl (gA w))), (mv, .inl (cI, 4, .inl (gA v))), (na, .inr (3, [.ref nc, .int (nI k0)])), (nc, .inl (cI, 17, .inl (gA f0)))] sz) (va_Qi (fun (r7 : Int32) (u : (Nat → Nat) × (Nat → Nat) × Nat × (Nat → Nat)) => r7 = (nI 0)) (fun u t => gB2 dC dI cI cL (va_A [(x, .inr (6, [.ref bf, .ref kb, .ref to, .ref ro, .ref fw, .ref sw, .ref na, .ref wo])), (ro, .inr (4, [.ref rc, .int (nI n), .int (nI bs)])), (rc, .inl (cI, 64, .inl (gA f))), (to, .inr (1, [.ref tc, .int (nI tn)])), (tc, .inl (cI, 64, .inl (gA tb))), (sw, .inr (5, [.ref ci, .ref tu, .int (nI lf), .int (nI rt)])), (tu, .inl (cI, 4, .inl (gA t0))), (ci, .inr (0, [.ref sc, .ref mv, .int (nI r)])), (sc, .inl (cI, 60, .inl (gA w))), (mv, .inl (cI, 4, .inl (gA v))), (na, .inr (3, [.ref nc, .int (nI k0)])), (nc, .inl (cI, 17, .inl (gA f0)))] sz) [(x, .inr (6, [.ref bf, .ref kb, .ref to, .ref ro, .ref fw, .ref sw, .ref na, .ref wo])), (ro, .inr (4, [.ref rc, .int (nI n), .int (nI bs)])), (rc, .inl (cI, 64, .inl (gA (fei (FF3 Wk r tb) 1 (n - n / 2) (n - (n - n / 2)) bk bs 8 f 8)))), (to, .inr (1, [.ref tc, .int (nI tn)])), (tc, .inl (cI, 64, .inl (gA tb))), (sw, .inr (5, [.ref ci, .ref tu, .int (nI (lfB tb)), .int (nI (rtB tb))])), (tu, .inl (cI, 4, .inl (gA u.1))), (ci, .inr (0, [.ref sc, .ref mv, .int (nI r)])), (sc, .inl (cI, 60, .inl (gA w))), (mv, .inl (cI, 4, .inl (gA u.2.1))), (na, .inr (3, [.ref nc, .int (nI u.2.2.1)])), (nc, .inl (cI, 17, .inl (gA u.2.2.2)))] t) (va_A [(x, .inr (6, [.ref bf, .ref kb, .ref to, .ref ro, .ref fw, .ref sw, .ref na, .ref wo])), (ro, .inr (4, [.ref rc, .int (nI n), .int (nI bs)])), (rc, .inl (cI, 64, .inl (gA f))), (to, .inr (1, [.ref tc, .int (nI tn)])), (tc, .inl (cI, 64, .inl (gA tb))), (sw, .inr (5, [.ref ci, .ref tu, .int (nI lf), .int (nI rt)])), (tu, .inl (cI, 4, .inl (gA t0))), (ci, .inr (0, [.ref sc, .ref mv, .int (nI r)])), (sc, .inl (cI, 60, .inl (gA w))), (mv, .inl (cI, 4, .inl (gA v))), (na, .inr (3, [.ref nc, .int (nI k0)])), (nc, .inl (cI, 17, .inl (gA f0)))] sz)) 0 0 (va_A [(x, .inr (6, [.ref bf, .ref kb, .ref to, .ref ro, .ref fw, .ref sw, .ref na, .ref wo])), (ro, .inr (4, [.ref rc, .int (nI n), .int (nI bs)])), (rc, .inl (cI, 64, .inl (gA f))), (to, .inr (1, [.ref tc, .int (nI tn)])), (tc, .inl (cI, 64, .inl (gA tb))), (sw, .inr (5, [.ref ci, .ref tu, .int (nI lf), .int (nI rt)])), (tu, .inl (cI, 4, .inl (gA t0))), (ci, .inr (0, [.ref sc, .ref mv, .int (nI r)])), (sc, .inl (cI, 60, .inl (gA w))), (mv, .inl (cI, 4, .inl (gA v))), (na, .inr (3, [.ref nc, .int (nI k0)])), (nc, .inl (cI, 17, .inl (gA f0)))] sz) := by
  refine va_MetW (cc := cL_turn) (maxL := 4) (ret := (some .int)) (by decide) rfl ?_
  intro p e s m args below meth c s₁ B9 hml hv
  obtain ⟨rfl, hsz, ⟨hP, hK2, hD0⟩, hG⟩ := hv
  have hK := hK2.sub (tys' := [(cI, .int)]) [0] rfl
  have hx := B9.exec
  have hb := B9.bytes
  have hr := B9.returns
  have hts := atoms_spec (ws := wsL_turn) B9.pre
  have htab := vx_table (x := yL_turn) B9 (hts _ List.mem_cons_self)
  have hown : s.vm.findClass RL = some m.cls := findClass_of_methodNamed B9.named
  have hlocks := B9.notSynchronized
  subst hsz
  have hD := hD0.self (sz := s.heap.size)
  generalize hAe : va_A [(x, .inr (6, [.ref bf, .ref kb, .ref to, .ref ro, .ref fw, .ref sw, .ref na, .ref wo])), (ro, .inr (4, [.ref rc, .int (nI n), .int (nI bs)])), (rc, .inl (cI, 64, .inl (gA f))), (to, .inr (1, [.ref tc, .int (nI tn)])), (tc, .inl (cI, 64, .inl (gA tb))), (sw, .inr (5, [.ref ci, .ref tu, .int (nI lf), .int (nI rt)])), (tu, .inl (cI, 4, .inl (gA t0))), (ci, .inr (0, [.ref sc, .ref mv, .int (nI r)])), (sc, .inl (cI, 60, .inl (gA w))), (mv, .inl (cI, 4, .inl (gA v))), (na, .inr (3, [.ref nc, .int (nI k0)])), (nc, .inl (cI, 17, .inl (gA f0)))] s.heap.size = A at hD hG ⊢
  have hE := hG.1
  have hA : ∀ q : Nat, s.heap.size ≤ q → A q := fun q h => by rw [← hAe]; exact Or.inr h
  have hS : va_S A s.heap s.heap [] := va_S.rf
  have hl := lv_entry ([.ref x, .int (nI 1), .int (nI bk)]) (n := 4) (Nat.le_of_ble_eq_true rfl)
  rw [lg_entry_eq]
  generalize (lg_sl ([.ref x, .int (nI 1), .int (nI bk)]) ++ List.replicate (4 - (lg_sl ([.ref x, .int (nI 1), .int (nI bk)])).length) Slot.unset).toArray = ls at hl ⊢
  have hl : lv_has ls 4 [(0, .ref x), (1, .int (nI 1)), (2, .int (nI bk))] := hl
  refine lv_aload_n hx hb dL_turn_0 rfl (lv_at hl 0 rfl) ?_
  refine lv_iload_n hx hb dL_turn_1 rfl (lv_at hl 1 rfl) ?_
  refine lv_iload_n hx hb dL_turn_2 rfl (lv_at hl 2 rfl) ?_
  have hPc := hP.sub (ws' := [(x, .inr (6, [.ref bf, .ref kb, .ref to, .ref ro, .ref fw, .ref sw, .ref na, .ref wo])), (ro, .inr (4, [.ref rc, .int (nI n), .int (nI bs)])), (rc, .inl (cI, 64, .inl (gA f))), (to, .inr (1, [.ref tc, .int (nI tn)])), (tc, .inl (cI, 64, .inl (gA tb))), (sw, .inr (5, [.ref ci, .ref tu, .int (nI lf), .int (nI rt)])), (tu, .inl (cI, 4, .inl (gA t0))), (ci, .inr (0, [.ref sc, .ref mv, .int (nI r)])), (sc, .inl (cI, 60, .inl (gA w))), (mv, .inl (cI, 4, .inl (gA v))), (na, .inr (3, [.ref nc, .int (nI k0)])), (nc, .inl (cI, 17, .inl (gA f0)))]) [0, 1, 2, 3, 4, 5, 6, 7, 8, 9, 10, 11] rfl
  have hDc := hD.sub (ws' := [(x, .inr (6, [.ref bf, .ref kb, .ref to, .ref ro, .ref fw, .ref sw, .ref na, .ref wo])), (ro, .inr (4, [.ref rc, .int (nI n), .int (nI bs)])), (rc, .inl (cI, 64, .inl (gA f))), (to, .inr (1, [.ref tc, .int (nI tn)])), (tc, .inl (cI, 64, .inl (gA tb))), (sw, .inr (5, [.ref ci, .ref tu, .int (nI lf), .int (nI rt)])), (tu, .inl (cI, 4, .inl (gA t0))), (ci, .inr (0, [.ref sc, .ref mv, .int (nI r)])), (sc, .inl (cI, 60, .inl (gA w))), (mv, .inl (cI, 4, .inl (gA v))), (na, .inr (3, [.ref nc, .int (nI k0)])), (nc, .inl (cI, 17, .inl (gA f0)))]) [0, 1, 2, 3, 4, 5, 6, 7, 8, 9, 10, 11] (by decide) rfl
  have hFc := va_free (wc := [(x, .inr (6, [.ref bf, .ref kb, .ref to, .ref ro, .ref fw, .ref sw, .ref na, .ref wo])), (ro, .inr (4, [.ref rc, .int (nI n), .int (nI bs)])), (rc, .inl (cI, 64, .inl (gA f))), (to, .inr (1, [.ref tc, .int (nI tn)])), (tc, .inl (cI, 64, .inl (gA tb))), (sw, .inr (5, [.ref ci, .ref tu, .int (nI lf), .int (nI rt)])), (tu, .inl (cI, 4, .inl (gA t0))), (ci, .inr (0, [.ref sc, .ref mv, .int (nI r)])), (sc, .inl (cI, 60, .inl (gA w))), (mv, .inl (cI, 4, .inl (gA v))), (na, .inr (3, [.ref nc, .int (nI k0)])), (nc, .inl (cI, 17, .inl (gA f0)))]) hD hS hA [0, 1, 2, 3, 4, 5, 6, 7, 8, 9, 10, 11] rfl
  refine va_callv (va_runV (As := [.int (nI 1), .int (nI bk)]) (rest := []) ⟨hx, hb, hml, hown, hts⟩ (c_X7_turn_1 l dC dI cI tS s.heap.size x bf kb to ro fw sw na wo rc tc nc ci tu sc mv lf rt r n bs tn k0 bk f tb t0 w v f0 Wk hr1 hr2 hwk hW hn2 hb1 hb2 htn ht0 htb hbk hd0 hyes) (cwV 2 hts gL_turn_X7_turn rfl rfl rfl (by decide +kernel) ⟨Nat.le_of_ble_eq_true rfl, Nat.le_of_ble_eq_true rfl⟩) ⟨gPe_blind, va_recv hK hPc (ci := 6) (q0 := 0) rfl rfl, gPe_pre hPc hK hDc (hE.at hS) hFc⟩ rfl rfl hl.1 rfl (lv_room (Nat.le_of_ble_eq_true rfl)) dL_turn_3 ⟨Nat.zero_le _, Nat.zero_le _⟩) hS (fun q _ h => hFc q h) hFc (fun u8 t8 H1 locs ht hvm hw hB hz1 hk1 hS => ?_)
  obtain ⟨t9_1, v9_1, m9_1, f9_1⟩ := u8
  try dsimp only at hw hB
  obtain ⟨hP, hD⟩ := gB_join (wr := []) (w2 := [(x, .inr (6, [.ref bf, .ref kb, .ref to, .ref ro, .ref fw, .ref sw, .ref na, .ref wo])), (ro, .inr (4, [.ref rc, .int (nI n), .int (nI bs)])), (rc, .inl (cI, 64, .inl (gA (fei (FF3 Wk r tb) 1 (n - n / 2) (n - (n - n / 2)) bk bs 8 f 8)))), (to, .inr (1, [.ref tc, .int (nI tn)])), (tc, .inl (cI, 64, .inl (gA tb))), (sw, .inr (5, [.ref ci, .ref tu, .int (nI (lfB tb)), .int (nI (rtB tb))])), (tu, .inl (cI, 4, .inl (gA t9_1))), (ci, .inr (0, [.ref sc, .ref mv, .int (nI r)])), (sc, .inl (cI, 60, .inl (gA w))), (mv, .inl (cI, 4, .inl (gA v9_1))), (na, .inr (3, [.ref nc, .int (nI m9_1)])), (nc, .inl (cI, 17, .inl (gA f9_1)))]) hP hD [0, 1, 2, 3, 4, 5, 6, 7, 8, 9, 10, 11] [] rfl rfl (by decide) (by decide) hk1 hFc ht hB rfl
  clear hk1 hz1 ht hB hvm hPc hDc hFc
  generalize H1 = H at hP hS ⊢
  refine lv_goto (tgt := 15) hx hb dL_turn_6 (by decide) ?_
  refine lv_iconst (v := nI 0) hx hb dL_turn_15 (by decide) ?_
  exact W.iret (v := (nI 0)) hx hb hr (fun t ht hW => ⟨⟨_, (t9_1, v9_1, m9_1, f9_1), rfl, rfl, gB2_end ht hW hP hK2 hD⟩, hS.F ht⟩) hS.2.2 dL_turn_16

set_option maxHeartbeats 4000000 in
set_option maxRecDepth 100000 in
/-- the law calls count: 0 -/
theorem w_L_count_0 (l : Launch) (hl0 : l.stackTraces = false) (dC : Nat → ClassId) (dI : Nat → Nat → Nat) (cI cL : ClassId) (tS : Nat) (sz : Nat) (x : Nat) (bf : Nat) (kb : Nat) (to : Nat) (ro : Nat) (fw : Nat) (sw : Nat) (na : Nat) (wo : Nat) (rc : Nat) (n : Nat) (bs : Nat) (out : Nat) (o0 : Nat → Int64) : Met l yL_count wsL_count ({ frames := 1, cells := 0, slots := 0, locals := 21 }) (gPw dC dI cI cL tS [.ref x, .int (nI 0), .ref out] [(x, .inr (6, [.ref bf, .ref kb, .ref to, .ref ro, .ref fw, .ref sw, .ref na, .ref wo])), (ro, .inr (4, [.ref rc, .int (nI n), .int (nI bs)])), (out, .inl (cL, 1, .inr (.inl o0)))] sz) (va_Qi (fun (r7 : Int32) (u : (Nat → Int64)) => r7 = (nI 0) ∧ (u 0 = (nI (n)).toInt64)) (fun u t => gB2 dC dI cI cL (va_A [(x, .inr (6, [.ref bf, .ref kb, .ref to, .ref ro, .ref fw, .ref sw, .ref na, .ref wo])), (ro, .inr (4, [.ref rc, .int (nI n), .int (nI bs)])), (out, .inl (cL, 1, .inr (.inl o0)))] sz) [(x, .inr (6, [.ref bf, .ref kb, .ref to, .ref ro, .ref fw, .ref sw, .ref na, .ref wo])), (ro, .inr (4, [.ref rc, .int (nI n), .int (nI bs)])), (out, .inl (cL, 1, .inr (.inl u)))] t) (va_A [(x, .inr (6, [.ref bf, .ref kb, .ref to, .ref ro, .ref fw, .ref sw, .ref na, .ref wo])), (ro, .inr (4, [.ref rc, .int (nI n), .int (nI bs)])), (out, .inl (cL, 1, .inr (.inl o0)))] sz)) 0 0 (va_A [(x, .inr (6, [.ref bf, .ref kb, .ref to, .ref ro, .ref fw, .ref sw, .ref na, .ref wo])), (ro, .inr (4, [.ref rc, .int (nI n), .int (nI bs)])), (out, .inl (cL, 1, .inr (.inl o0)))] sz) := by
  refine va_MetW (cc := cL_count) (maxL := 4) (ret := (some .int)) (by decide) rfl ?_
  intro p e s m args below meth c s₁ B9 hml hv
  obtain ⟨rfl, hsz, ⟨hP, hK2, hD0⟩, hG⟩ := hv
  have hK := hK2.sub (tys' := [(cI, .int)]) [0] rfl
  have hx := B9.exec
  have hb := B9.bytes
  have hr := B9.returns
  have hts := atoms_spec (ws := wsL_count) B9.pre
  have htab := vx_table (x := yL_count) B9 (hts _ List.mem_cons_self)
  have hown : s.vm.findClass RL = some m.cls := findClass_of_methodNamed B9.named
  have hlocks := B9.notSynchronized
  subst hsz
  have hD := hD0.self (sz := s.heap.size)
  generalize hAe : va_A [(x, .inr (6, [.ref bf, .ref kb, .ref to, .ref ro, .ref fw, .ref sw, .ref na, .ref wo])), (ro, .inr (4, [.ref rc, .int (nI n), .int (nI bs)])), (out, .inl (cL, 1, .inr (.inl o0)))] s.heap.size = A at hD hG ⊢
  have hE := hG.1
  have hA : ∀ q : Nat, s.heap.size ≤ q → A q := fun q h => by rw [← hAe]; exact Or.inr h
  have hS : va_S A s.heap s.heap [] := va_S.rf
  have hl := lv_entry ([.ref x, .int (nI 0), .ref out]) (n := 4) (Nat.le_of_ble_eq_true rfl)
  rw [lg_entry_eq]
  generalize (lg_sl ([.ref x, .int (nI 0), .ref out]) ++ List.replicate (4 - (lg_sl ([.ref x, .int (nI 0), .ref out])).length) Slot.unset).toArray = ls at hl ⊢
  have hl : lv_has ls 4 [(0, .ref x), (1, .int (nI 0)), (2, .ref out)] := hl
  refine lv_aload_n hx hb dL_count_0 rfl (lv_at hl 2 rfl) ?_
  refine lv_iconst (v := nI 0) hx hb dL_count_1 (by decide) ?_
  refine lv_aload_n hx hb dL_count_2 rfl (lv_at hl 0 rfl) ?_
  refine lv_iload_n hx hb dL_count_3 rfl (lv_at hl 1 rfl) ?_
  have hPc := hP.sub (ws' := [(x, .inr (6, [.ref bf, .ref kb, .ref to, .ref ro, .ref fw, .ref sw, .ref na, .ref wo])), (ro, .inr (4, [.ref rc, .int (nI n), .int (nI bs)]))]) [0, 1] rfl
  have hDc := hD.sub (ws' := [(x, .inr (6, [.ref bf, .ref kb, .ref to, .ref ro, .ref fw, .ref sw, .ref na, .ref wo])), (ro, .inr (4, [.ref rc, .int (nI n), .int (nI bs)]))]) [0, 1] (by decide) rfl
  have hFc := va_free (wc := [(x, .inr (6, [.ref bf, .ref kb, .ref to, .ref ro, .ref fw, .ref sw, .ref na, .ref wo])), (ro, .inr (4, [.ref rc, .int (nI n), .int (nI bs)]))]) hD hS hA [0, 1] rfl
  refine va_calli (va_runV (As := [.int (nI 0)]) (rest := [.int (nI 0), .ref out]) ⟨hx, hb, hml, hown, hts⟩ (c_X7_count_0 l dC dI cI tS s.heap.size x bf kb to ro fw sw na wo rc n bs ) (cwV 1 hts gL_count_X7_count rfl rfl rfl (by decide +kernel) ⟨Nat.le_of_ble_eq_true rfl, Nat.le_of_ble_eq_true rfl⟩) ⟨gPe_blind, va_recv hK hPc (ci := 6) (q0 := 0) rfl rfl, gPe_pre hPc hK hDc (hE.at hS) hFc⟩ rfl rfl hl.1 rfl (lv_room (Nat.le_of_ble_eq_true rfl)) dL_count_4 ⟨Nat.zero_le _, Nat.zero_le _⟩) hS (fun q _ h => hFc q h) hFc (fun r9 u8 t8 H1 locs ht hvm hw hB hz1 hk1 hS => ?_)
  try dsimp only at hw hB
  obtain ⟨hP, hD⟩ := gB_join (wr := [(out, .inl (cL, 1, .inr (.inl o0)))]) (w2 := [(out, .inl (cL, 1, .inr (.inl o0))), (x, .inr (6, [.ref bf, .ref kb, .ref to, .ref ro, .ref fw, .ref sw, .ref na, .ref wo])), (ro, .inr (4, [.ref rc, .int (nI n), .int (nI bs)]))]) hP hD [0, 1] [2] rfl rfl (by decide) (by decide) hk1 hFc ht hB rfl
  clear hk1 hz1 ht hB hvm hPc hDc hFc
  generalize H1 = H at hP hS ⊢
  subst hw
  refine lv_i2l (v := (nI n).toInt64) hx hb dL_count_7 rfl ?_
  refine va_last hx hb hK2 hP hD hS 0 1 rfl rfl (vp_in_nI (by decide) (by decide)) dL_count_8 (fun H locs hP hD hS => ?_)
  obtain ⟨o9_2, ho9_2⟩ : ∃ z : Nat → Int64, z = vp_updL o0 (nI 0).toNatClampNeg ((nI n).toInt64) := ⟨_, rfl⟩
  rw [← ho9_2] at hP hD
  have ho9 : o9_2 0 = ((nI n).toInt64) := by rw [ho9_2]; exact if_pos rfl
  have hP : va_P (dC, dI) vwCl [(out, .inl (cL, 1, .inr (.inl o9_2))), (x, .inr (6, [.ref bf, .ref kb, .ref to, .ref ro, .ref fw, .ref sw, .ref na, .ref wo])), (ro, .inr (4, [.ref rc, .int (nI n), .int (nI bs)]))] H := hP
  have hD : va_D A [(out, .inl (cL, 1, .inr (.inl o9_2))), (x, .inr (6, [.ref bf, .ref kb, .ref to, .ref ro, .ref fw, .ref sw, .ref na, .ref wo])), (ro, .inr (4, [.ref rc, .int (nI n), .int (nI bs)]))] := hD
  refine lv_goto (tgt := 15) hx hb dL_count_9 (by decide) ?_
  refine lv_iconst (v := nI 0) hx hb dL_count_15 (by decide) ?_
  exact W.iret (v := (nI 0)) hx hb hr (fun t ht hW => ⟨⟨_, (o9_2), rfl, ⟨rfl, ho9⟩, gB2_end ht hW (hP.sub [1, 2, 0] rfl) hK2 (hD.sub [1, 2, 0] (by decide) rfl)⟩, hS.F ht⟩) hS.2.2 dL_count_16

set_option maxHeartbeats 4000000 in
set_option maxRecDepth 100000 in
/-- the law calls count: 1 -/
theorem w_L_count_1 (l : Launch) (hl0 : l.stackTraces = false) (dC : Nat → ClassId) (dI : Nat → Nat → Nat) (cI cL : ClassId) (tS : Nat) (sz : Nat) (x : Nat) (bf : Nat) (kb : Nat) (to : Nat) (ro : Nat) (fw : Nat) (sw : Nat) (na : Nat) (wo : Nat) (rc : Nat) (n : Nat) (bs : Nat) (out : Nat) (o0 : Nat → Int64) : Met l yL_count wsL_count ({ frames := 1, cells := 0, slots := 0, locals := 21 }) (gPw dC dI cI cL tS [.ref x, .int (nI 1), .ref out] [(x, .inr (6, [.ref bf, .ref kb, .ref to, .ref ro, .ref fw, .ref sw, .ref na, .ref wo])), (ro, .inr (4, [.ref rc, .int (nI n), .int (nI bs)])), (out, .inl (cL, 1, .inr (.inl o0)))] sz) (va_Qi (fun (r7 : Int32) (u : (Nat → Int64)) => r7 = (nI 0) ∧ (u 0 = (nI (bs)).toInt64)) (fun u t => gB2 dC dI cI cL (va_A [(x, .inr (6, [.ref bf, .ref kb, .ref to, .ref ro, .ref fw, .ref sw, .ref na, .ref wo])), (ro, .inr (4, [.ref rc, .int (nI n), .int (nI bs)])), (out, .inl (cL, 1, .inr (.inl o0)))] sz) [(x, .inr (6, [.ref bf, .ref kb, .ref to, .ref ro, .ref fw, .ref sw, .ref na, .ref wo])), (ro, .inr (4, [.ref rc, .int (nI n), .int (nI bs)])), (out, .inl (cL, 1, .inr (.inl u)))] t) (va_A [(x, .inr (6, [.ref bf, .ref kb, .ref to, .ref ro, .ref fw, .ref sw, .ref na, .ref wo])), (ro, .inr (4, [.ref rc, .int (nI n), .int (nI bs)])), (out, .inl (cL, 1, .inr (.inl o0)))] sz)) 0 0 (va_A [(x, .inr (6, [.ref bf, .ref kb, .ref to, .ref ro, .ref fw, .ref sw, .ref na, .ref wo])), (ro, .inr (4, [.ref rc, .int (nI n), .int (nI bs)])), (out, .inl (cL, 1, .inr (.inl o0)))] sz) := by
  refine va_MetW (cc := cL_count) (maxL := 4) (ret := (some .int)) (by decide) rfl ?_
  intro p e s m args below meth c s₁ B9 hml hv
  obtain ⟨rfl, hsz, ⟨hP, hK2, hD0⟩, hG⟩ := hv
  have hK := hK2.sub (tys' := [(cI, .int)]) [0] rfl
  have hx := B9.exec
  have hb := B9.bytes
  have hr := B9.returns
  have hts := atoms_spec (ws := wsL_count) B9.pre
  have htab := vx_table (x := yL_count) B9 (hts _ List.mem_cons_self)
  have hown : s.vm.findClass RL = some m.cls := findClass_of_methodNamed B9.named
  have hlocks := B9.notSynchronized
  subst hsz
  have hD := hD0.self (sz := s.heap.size)
  generalize hAe : va_A [(x, .inr (6, [.ref bf, .ref kb, .ref to, .ref ro, .ref fw, .ref sw, .ref na, .ref wo])), (ro, .inr (4, [.ref rc, .int (nI n), .int (nI bs)])), (out, .inl (cL, 1, .inr (.inl o0)))] s.heap.size = A at hD hG ⊢
  have hE := hG.1
  have hA : ∀ q : Nat, s.heap.size ≤ q → A q := fun q h => by rw [← hAe]; exact Or.inr h
  have hS : va_S A s.heap s.heap [] := va_S.rf
  have hl := lv_entry ([.ref x, .int (nI 1), .ref out]) (n := 4) (Nat.le_of_ble_eq_true rfl)
  rw [lg_entry_eq]
  generalize (lg_sl ([.ref x, .int (nI 1), .ref out]) ++ List.replicate (4 - (lg_sl ([.ref x, .int (nI 1), .ref out])).length) Slot.unset).toArray = ls at hl ⊢
  have hl : lv_has ls 4 [(0, .ref x), (1, .int (nI 1)), (2, .ref out)] := hl
  refine lv_aload_n hx hb dL_count_0 rfl (lv_at hl 2 rfl) ?_
  refine lv_iconst (v := nI 0) hx hb dL_count_1 (by decide) ?_
  refine lv_aload_n hx hb dL_count_2 rfl (lv_at hl 0 rfl) ?_
  refine lv_iload_n hx hb dL_count_3 rfl (lv_at hl 1 rfl) ?_
  have hPc := hP.sub (ws' := [(x, .inr (6, [.ref bf, .ref kb, .ref to, .ref ro, .ref fw, .ref sw, .ref na, .ref wo])), (ro, .inr (4, [.ref rc, .int (nI n), .int (nI bs)]))]) [0, 1] rfl
  have hDc := hD.sub (ws' := [(x, .inr (6, [.ref bf, .ref kb, .ref to, .ref ro, .ref fw, .ref sw, .ref na, .ref wo])), (ro, .inr (4, [.ref rc, .int (nI n), .int (nI bs)]))]) [0, 1] (by decide) rfl
  have hFc := va_free (wc := [(x, .inr (6, [.ref bf, .ref kb, .ref to, .ref ro, .ref fw, .ref sw, .ref na, .ref wo])), (ro, .inr (4, [.ref rc, .int (nI n), .int (nI bs)]))]) hD hS hA [0, 1] rfl
  refine va_calli (va_runV (As := [.int (nI 1)]) (rest := [.int (nI 0), .ref out]) ⟨hx, hb, hml, hown, hts⟩ (c_X7_count_1 l dC dI cI tS s.heap.size x bf kb to ro fw sw na wo rc n bs ) (cwV 1 hts gL_count_X7_count rfl rfl rfl (by decide +kernel) ⟨Nat.le_of_ble_eq_true rfl, Nat.le_of_ble_eq_true rfl⟩) ⟨gPe_blind, va_recv hK hPc (ci := 6) (q0 := 0) rfl rfl, gPe_pre hPc hK hDc (hE.at hS) hFc⟩ rfl rfl hl.1 rfl (lv_room (Nat.le_of_ble_eq_true rfl)) dL_count_4 ⟨Nat.zero_le _, Nat.zero_le _⟩) hS (fun q _ h => hFc q h) hFc (fun r9 u8 t8 H1 locs ht hvm hw hB hz1 hk1 hS => ?_)
  try dsimp only at hw hB
  obtain ⟨hP, hD⟩ := gB_join (wr := [(out, .inl (cL, 1, .inr (.inl o0)))]) (w2 := [(out, .inl (cL, 1, .inr (.inl o0))), (x, .inr (6, [.ref bf, .ref kb, .ref to, .ref ro, .ref fw, .ref sw, .ref na, .ref wo])), (ro, .inr (4, [.ref rc, .int (nI n), .int (nI bs)]))]) hP hD [0, 1] [2] rfl rfl (by decide) (by decide) hk1 hFc ht hB rfl
  clear hk1 hz1 ht hB hvm hPc hDc hFc
  generalize H1 = H at hP hS ⊢
  subst hw
  refine lv_i2l (v := (nI bs).toInt64) hx hb dL_count_7 rfl ?_
  refine va_last hx hb hK2 hP hD hS 0 1 rfl rfl (vp_in_nI (by decide) (by decide)) dL_count_8 (fun H locs hP hD hS => ?_)
  obtain ⟨o9_2, ho9_2⟩ : ∃ z : Nat → Int64, z = vp_updL o0 (nI 0).toNatClampNeg ((nI bs).toInt64) := ⟨_, rfl⟩
  rw [← ho9_2] at hP hD
  have ho9 : o9_2 0 = ((nI bs).toInt64) := by rw [ho9_2]; exact if_pos rfl
  have hP : va_P (dC, dI) vwCl [(out, .inl (cL, 1, .inr (.inl o9_2))), (x, .inr (6, [.ref bf, .ref kb, .ref to, .ref ro, .ref fw, .ref sw, .ref na, .ref wo])), (ro, .inr (4, [.ref rc, .int (nI n), .int (nI bs)]))] H := hP
  have hD : va_D A [(out, .inl (cL, 1, .inr (.inl o9_2))), (x, .inr (6, [.ref bf, .ref kb, .ref to, .ref ro, .ref fw, .ref sw, .ref na, .ref wo])), (ro, .inr (4, [.ref rc, .int (nI n), .int (nI bs)]))] := hD
  refine lv_goto (tgt := 15) hx hb dL_count_9 (by decide) ?_
  refine lv_iconst (v := nI 0) hx hb dL_count_15 (by decide) ?_
  exact W.iret (v := (nI 0)) hx hb hr (fun t ht hW => ⟨⟨_, (o9_2), rfl, ⟨rfl, ho9⟩, gB2_end ht hW (hP.sub [1, 2, 0] rfl) hK2 (hD.sub [1, 2, 0] (by decide) rfl)⟩, hS.F ht⟩) hS.2.2 dL_count_16

set_option maxHeartbeats 4000000 in
set_option maxRecDepth 100000 in
/-- the law calls count: 2 -/
theorem w_L_count_2 (l : Launch) (hl0 : l.stackTraces = false) (dC : Nat → ClassId) (dI : Nat → Nat → Nat) (cI cL : ClassId) (tS : Nat) (sz : Nat) (x : Nat) (bf : Nat) (kb : Nat) (to : Nat) (ro : Nat) (fw : Nat) (sw : Nat) (na : Nat) (wo : Nat) (kc : Nat) (kn : Nat) (out : Nat) (o0 : Nat → Int64) : Met l yL_count wsL_count ({ frames := 1, cells := 0, slots := 0, locals := 21 }) (gPw dC dI cI cL tS [.ref x, .int (nI 2), .ref out] [(x, .inr (6, [.ref bf, .ref kb, .ref to, .ref ro, .ref fw, .ref sw, .ref na, .ref wo])), (kb, .inr (1, [.ref kc, .int (nI kn)])), (out, .inl (cL, 1, .inr (.inl o0)))] sz) (va_Qi (fun (r7 : Int32) (u : (Nat → Int64)) => r7 = (nI 0) ∧ (u 0 = (nI (kn)).toInt64)) (fun u t => gB2 dC dI cI cL (va_A [(x, .inr (6, [.ref bf, .ref kb, .ref to, .ref ro, .ref fw, .ref sw, .ref na, .ref wo])), (kb, .inr (1, [.ref kc, .int (nI kn)])), (out, .inl (cL, 1, .inr (.inl o0)))] sz) [(x, .inr (6, [.ref bf, .ref kb, .ref to, .ref ro, .ref fw, .ref sw, .ref na, .ref wo])), (kb, .inr (1, [.ref kc, .int (nI kn)])), (out, .inl (cL, 1, .inr (.inl u)))] t) (va_A [(x, .inr (6, [.ref bf, .ref kb, .ref to, .ref ro, .ref fw, .ref sw, .ref na, .ref wo])), (kb, .inr (1, [.ref kc, .int (nI kn)])), (out, .inl (cL, 1, .inr (.inl o0)))] sz)) 0 0 (va_A [(x, .inr (6, [.ref bf, .ref kb, .ref to, .ref ro, .ref fw, .ref sw, .ref na, .ref wo])), (kb, .inr (1, [.ref kc, .int (nI kn)])), (out, .inl (cL, 1, .inr (.inl o0)))] sz) := by
  refine va_MetW (cc := cL_count) (maxL := 4) (ret := (some .int)) (by decide) rfl ?_
  intro p e s m args below meth c s₁ B9 hml hv
  obtain ⟨rfl, hsz, ⟨hP, hK2, hD0⟩, hG⟩ := hv
  have hK := hK2.sub (tys' := [(cI, .int)]) [0] rfl
  have hx := B9.exec
  have hb := B9.bytes
  have hr := B9.returns
  have hts := atoms_spec (ws := wsL_count) B9.pre
  have htab := vx_table (x := yL_count) B9 (hts _ List.mem_cons_self)
  have hown : s.vm.findClass RL = some m.cls := findClass_of_methodNamed B9.named
  have hlocks := B9.notSynchronized
  subst hsz
  have hD := hD0.self (sz := s.heap.size)
  generalize hAe : va_A [(x, .inr (6, [.ref bf, .ref kb, .ref to, .ref ro, .ref fw, .ref sw, .ref na, .ref wo])), (kb, .inr (1, [.ref kc, .int (nI kn)])), (out, .inl (cL, 1, .inr (.inl o0)))] s.heap.size = A at hD hG ⊢
  have hE := hG.1
  have hA : ∀ q : Nat, s.heap.size ≤ q → A q := fun q h => by rw [← hAe]; exact Or.inr h
  have hS : va_S A s.heap s.heap [] := va_S.rf
  have hl := lv_entry ([.ref x, .int (nI 2), .ref out]) (n := 4) (Nat.le_of_ble_eq_true rfl)
  rw [lg_entry_eq]
  generalize (lg_sl ([.ref x, .int (nI 2), .ref out]) ++ List.replicate (4 - (lg_sl ([.ref x, .int (nI 2), .ref out])).length) Slot.unset).toArray = ls at hl ⊢
  have hl : lv_has ls 4 [(0, .ref x), (1, .int (nI 2)), (2, .ref out)] := hl
  refine lv_aload_n hx hb dL_count_0 rfl (lv_at hl 2 rfl) ?_
  refine lv_iconst (v := nI 0) hx hb dL_count_1 (by decide) ?_
  refine lv_aload_n hx hb dL_count_2 rfl (lv_at hl 0 rfl) ?_
  refine lv_iload_n hx hb dL_count_3 rfl (lv_at hl 1 rfl) ?_
  have hPc := hP.sub (ws' := [(x, .inr (6, [.ref bf, .ref kb, .ref to, .ref ro, .ref fw, .ref sw, .ref na, .ref wo])), (kb, .inr (1, [.ref kc, .int (nI kn)]))]) [0, 1] rfl
  have hDc := hD.sub (ws' := [(x, .inr (6, [.ref bf, .ref kb, .ref to, .ref ro, .ref fw, .ref sw, .ref na, .ref wo])), (kb, .inr (1, [.ref kc, .int (nI kn)]))]) [0, 1] (by decide) rfl
  have hFc := va_free (wc := [(x, .inr (6, [.ref bf, .ref kb, .ref to, .ref ro, .ref fw, .ref sw, .ref na, .ref wo])), (kb, .inr (1, [.ref kc, .int (nI kn)]))]) hD hS hA [0, 1] rfl
  refine va_calli (va_runV (As := [.int (nI 2)]) (rest := [.int (nI 0), .ref out]) ⟨hx, hb, hml, hown, hts⟩ (c_X7_count_2 l dC dI cI tS s.heap.size x bf kb to ro fw sw na wo kc kn ) (cwV 1 hts gL_count_X7_count rfl rfl rfl (by decide +kernel) ⟨Nat.le_of_ble_eq_true rfl, Nat.le_of_ble_eq_true rfl⟩) ⟨gPe_blind, va_recv hK hPc (ci := 6) (q0 := 0) rfl rfl, gPe_pre hPc hK hDc (hE.at hS) hFc⟩ rfl rfl hl.1 rfl (lv_room (Nat.le_of_ble_eq_true rfl)) dL_count_4 ⟨Nat.zero_le _, Nat.zero_le _⟩) hS (fun q _ h => hFc q h) hFc (fun r9 u8 t8 H1 locs ht hvm hw hB hz1 hk1 hS => ?_)
  try dsimp only at hw hB
  obtain ⟨hP, hD⟩ := gB_join (wr := [(out, .inl (cL, 1, .inr (.inl o0)))]) (w2 := [(out, .inl (cL, 1, .inr (.inl o0))), (x, .inr (6, [.ref bf, .ref kb, .ref to, .ref ro, .ref fw, .ref sw, .ref na, .ref wo])), (kb, .inr (1, [.ref kc, .int (nI kn)]))]) hP hD [0, 1] [2] rfl rfl (by decide) (by decide) hk1 hFc ht hB rfl
  clear hk1 hz1 ht hB hvm hPc hDc hFc
  generalize H1 = H at hP hS ⊢
  subst hw
  refine lv_i2l (v := (nI kn).toInt64) hx hb dL_count_7 rfl ?_
  refine va_last hx hb hK2 hP hD hS 0 1 rfl rfl (vp_in_nI (by decide) (by decide)) dL_count_8 (fun H locs hP hD hS => ?_)
  obtain ⟨o9_2, ho9_2⟩ : ∃ z : Nat → Int64, z = vp_updL o0 (nI 0).toNatClampNeg ((nI kn).toInt64) := ⟨_, rfl⟩
  rw [← ho9_2] at hP hD
  have ho9 : o9_2 0 = ((nI kn).toInt64) := by rw [ho9_2]; exact if_pos rfl
  have hP : va_P (dC, dI) vwCl [(out, .inl (cL, 1, .inr (.inl o9_2))), (x, .inr (6, [.ref bf, .ref kb, .ref to, .ref ro, .ref fw, .ref sw, .ref na, .ref wo])), (kb, .inr (1, [.ref kc, .int (nI kn)]))] H := hP
  have hD : va_D A [(out, .inl (cL, 1, .inr (.inl o9_2))), (x, .inr (6, [.ref bf, .ref kb, .ref to, .ref ro, .ref fw, .ref sw, .ref na, .ref wo])), (kb, .inr (1, [.ref kc, .int (nI kn)]))] := hD
  refine lv_goto (tgt := 15) hx hb dL_count_9 (by decide) ?_
  refine lv_iconst (v := nI 0) hx hb dL_count_15 (by decide) ?_
  exact W.iret (v := (nI 0)) hx hb hr (fun t ht hW => ⟨⟨_, (o9_2), rfl, ⟨rfl, ho9⟩, gB2_end ht hW (hP.sub [1, 2, 0] rfl) hK2 (hD.sub [1, 2, 0] (by decide) rfl)⟩, hS.F ht⟩) hS.2.2 dL_count_16

set_option maxHeartbeats 4000000 in
set_option maxRecDepth 100000 in
/-- the law calls count: 3 -/
theorem w_L_count_3 (l : Launch) (hl0 : l.stackTraces = false) (dC : Nat → ClassId) (dI : Nat → Nat → Nat) (cI cL : ClassId) (tS : Nat) (sz : Nat) (x : Nat) (bf : Nat) (kb : Nat) (to : Nat) (ro : Nat) (fw : Nat) (sw : Nat) (na : Nat) (wo : Nat) (tc : Nat) (tn : Nat) (out : Nat) (o0 : Nat → Int64) : Met l yL_count wsL_count ({ frames := 1, cells := 0, slots := 0, locals := 21 }) (gPw dC dI cI cL tS [.ref x, .int (nI 3), .ref out] [(x, .inr (6, [.ref bf, .ref kb, .ref to, .ref ro, .ref fw, .ref sw, .ref na, .ref wo])), (to, .inr (1, [.ref tc, .int (nI tn)])), (out, .inl (cL, 1, .inr (.inl o0)))] sz) (va_Qi (fun (r7 : Int32) (u : (Nat → Int64)) => r7 = (nI 0) ∧ (u 0 = (nI (tn)).toInt64)) (fun u t => gB2 dC dI cI cL (va_A [(x, .inr (6, [.ref bf, .ref kb, .ref to, .ref ro, .ref fw, .ref sw, .ref na, .ref wo])), (to, .inr (1, [.ref tc, .int (nI tn)])), (out, .inl (cL, 1, .inr (.inl o0)))] sz) [(x, .inr (6, [.ref bf, .ref kb, .ref to, .ref ro, .ref fw, .ref sw, .ref na, .ref wo])), (to, .inr (1, [.ref tc, .int (nI tn)])), (out, .inl (cL, 1, .inr (.inl u)))] t) (va_A [(x, .inr (6, [.ref bf, .ref kb, .ref to, .ref ro, .ref fw, .ref sw, .ref na, .ref wo])), (to, .inr (1, [.ref tc, .int (nI tn)])), (out, .inl (cL, 1, .inr (.inl o0)))] sz)) 0 0 (va_A [(x, .inr (6, [.ref bf, .ref kb, .ref to, .ref ro, .ref fw, .ref sw, .ref na, .ref wo])), (to, .inr (1, [.ref tc, .int (nI tn)])), (out, .inl (cL, 1, .inr (.inl o0)))] sz) := by
  refine va_MetW (cc := cL_count) (maxL := 4) (ret := (some .int)) (by decide) rfl ?_
  intro p e s m args below meth c s₁ B9 hml hv
  obtain ⟨rfl, hsz, ⟨hP, hK2, hD0⟩, hG⟩ := hv
  have hK := hK2.sub (tys' := [(cI, .int)]) [0] rfl
  have hx := B9.exec
  have hb := B9.bytes
  have hr := B9.returns
  have hts := atoms_spec (ws := wsL_count) B9.pre
  have htab := vx_table (x := yL_count) B9 (hts _ List.mem_cons_self)
  have hown : s.vm.findClass RL = some m.cls := findClass_of_methodNamed B9.named
  have hlocks := B9.notSynchronized
  subst hsz
  have hD := hD0.self (sz := s.heap.size)
  generalize hAe : va_A [(x, .inr (6, [.ref bf, .ref kb, .ref to, .ref ro, .ref fw, .ref sw, .ref na, .ref wo])), (to, .inr (1, [.ref tc, .int (nI tn)])), (out, .inl (cL, 1, .inr (.inl o0)))] s.heap.size = A at hD hG ⊢
  have hE := hG.1
  have hA : ∀ q : Nat, s.heap.size ≤ q → A q := fun q h => by rw [← hAe]; exact Or.inr h
  have hS : va_S A s.heap s.heap [] := va_S.rf
  have hl := lv_entry ([.ref x, .int (nI 3), .ref out]) (n := 4) (Nat.le_of_ble_eq_true rfl)
  rw [lg_entry_eq]
  generalize (lg_sl ([.ref x, .int (nI 3), .ref out]) ++ List.replicate (4 - (lg_sl ([.ref x, .int (nI 3), .ref out])).length) Slot.unset).toArray = ls at hl ⊢
  have hl : lv_has ls 4 [(0, .ref x), (1, .int (nI 3)), (2, .ref out)] := hl
  refine lv_aload_n hx hb dL_count_0 rfl (lv_at hl 2 rfl) ?_
  refine lv_iconst (v := nI 0) hx hb dL_count_1 (by decide) ?_
  refine lv_aload_n hx hb dL_count_2 rfl (lv_at hl 0 rfl) ?_
  refine lv_iload_n hx hb dL_count_3 rfl (lv_at hl 1 rfl) ?_
  have hPc := hP.sub (ws' := [(x, .inr (6, [.ref bf, .ref kb, .ref to, .ref ro, .ref fw, .ref sw, .ref na, .ref wo])), (to, .inr (1, [.ref tc, .int (nI tn)]))]) [0, 1] rfl
  have hDc := hD.sub (ws' := [(x, .inr (6, [.ref bf, .ref kb, .ref to, .ref ro, .ref fw, .ref sw, .ref na, .ref wo])), (to, .inr (1, [.ref tc, .int (nI tn)]))]) [0, 1] (by decide) rfl
  have hFc := va_free (wc := [(x, .inr (6, [.ref bf, .ref kb, .ref to, .ref ro, .ref fw, .ref sw, .ref na, .ref wo])), (to, .inr (1, [.ref tc, .int (nI tn)]))]) hD hS hA [0, 1] rfl
  refine va_calli (va_runV (As := [.int (nI 3)]) (rest := [.int (nI 0), .ref out]) ⟨hx, hb, hml, hown, hts⟩ (c_X7_count_3 l dC dI cI tS s.heap.size x bf kb to ro fw sw na wo tc tn ) (cwV 1 hts gL_count_X7_count rfl rfl rfl (by decide +kernel) ⟨Nat.le_of_ble_eq_true rfl, Nat.le_of_ble_eq_true rfl⟩) ⟨gPe_blind, va_recv hK hPc (ci := 6) (q0 := 0) rfl rfl, gPe_pre hPc hK hDc (hE.at hS) hFc⟩ rfl rfl hl.1 rfl (lv_room (Nat.le_of_ble_eq_true rfl)) dL_count_4 ⟨Nat.zero_le _, Nat.zero_le _⟩) hS (fun q _ h => hFc q h) hFc (fun r9 u8 t8 H1 locs ht hvm hw hB hz1 hk1 hS => ?_)
  try dsimp only at hw hB
  obtain ⟨hP, hD⟩ := gB_join (wr := [(out, .inl (cL, 1, .inr (.inl o0)))]) (w2 := [(out, .inl (cL, 1, .inr (.inl o0))), (x, .inr (6, [.ref bf, .ref kb, .ref to, .ref ro, .ref fw, .ref sw, .ref na, .ref wo])), (to, .inr (1, [.ref tc, .int (nI tn)]))]) hP hD [0, 1] [2] rfl rfl (by decide) (by decide) hk1 hFc ht hB rfl
  clear hk1 hz1 ht hB hvm hPc hDc hFc
  generalize H1 = H at hP hS ⊢
  subst hw
  refine lv_i2l (v := (nI tn).toInt64) hx hb dL_count_7 rfl ?_
  refine va_last hx hb hK2 hP hD hS 0 1 rfl rfl (vp_in_nI (by decide) (by decide)) dL_count_8 (fun H locs hP hD hS => ?_)
  obtain ⟨o9_2, ho9_2⟩ : ∃ z : Nat → Int64, z = vp_updL o0 (nI 0).toNatClampNeg ((nI tn).toInt64) := ⟨_, rfl⟩
  rw [← ho9_2] at hP hD
  have ho9 : o9_2 0 = ((nI tn).toInt64) := by rw [ho9_2]; exact if_pos rfl
  have hP : va_P (dC, dI) vwCl [(out, .inl (cL, 1, .inr (.inl o9_2))), (x, .inr (6, [.ref bf, .ref kb, .ref to, .ref ro, .ref fw, .ref sw, .ref na, .ref wo])), (to, .inr (1, [.ref tc, .int (nI tn)]))] H := hP
  have hD : va_D A [(out, .inl (cL, 1, .inr (.inl o9_2))), (x, .inr (6, [.ref bf, .ref kb, .ref to, .ref ro, .ref fw, .ref sw, .ref na, .ref wo])), (to, .inr (1, [.ref tc, .int (nI tn)]))] := hD
  refine lv_goto (tgt := 15) hx hb dL_count_9 (by decide) ?_
  refine lv_iconst (v := nI 0) hx hb dL_count_15 (by decide) ?_
  exact W.iret (v := (nI 0)) hx hb hr (fun t ht hW => ⟨⟨_, (o9_2), rfl, ⟨rfl, ho9⟩, gB2_end ht hW (hP.sub [1, 2, 0] rfl) hK2 (hD.sub [1, 2, 0] (by decide) rfl)⟩, hS.F ht⟩) hS.2.2 dL_count_16

set_option maxHeartbeats 4000000 in
set_option maxRecDepth 100000 in
/-- the law calls count: 4 -/
theorem w_L_count_4 (l : Launch) (hl0 : l.stackTraces = false) (dC : Nat → ClassId) (dI : Nat → Nat → Nat) (cI cL : ClassId) (tS : Nat) (sz : Nat) (x : Nat) (bf : Nat) (kb : Nat) (to : Nat) (ro : Nat) (fw : Nat) (sw : Nat) (na : Nat) (wo : Nat) (bc : Nat) (bn : Nat) (out : Nat) (o0 : Nat → Int64) : Met l yL_count wsL_count ({ frames := 1, cells := 0, slots := 0, locals := 21 }) (gPw dC dI cI cL tS [.ref x, .int (nI 4), .ref out] [(x, .inr (6, [.ref bf, .ref kb, .ref to, .ref ro, .ref fw, .ref sw, .ref na, .ref wo])), (bf, .inr (1, [.ref bc, .int (nI bn)])), (out, .inl (cL, 1, .inr (.inl o0)))] sz) (va_Qi (fun (r7 : Int32) (u : (Nat → Int64)) => r7 = (nI 0) ∧ (u 0 = (nI (bn)).toInt64)) (fun u t => gB2 dC dI cI cL (va_A [(x, .inr (6, [.ref bf, .ref kb, .ref to, .ref ro, .ref fw, .ref sw, .ref na, .ref wo])), (bf, .inr (1, [.ref bc, .int (nI bn)])), (out, .inl (cL, 1, .inr (.inl o0)))] sz) [(x, .inr (6, [.ref bf, .ref kb, .ref to, .ref ro, .ref fw, .ref sw, .ref na, .ref wo])), (bf, .inr (1, [.ref bc, .int (nI bn)])), (out, .inl (cL, 1, .inr (.inl u)))] t) (va_A [(x, .inr (6, [.ref bf, .ref kb, .ref to, .ref ro, .ref fw, .ref sw, .ref na, .ref wo])), (bf, .inr (1, [.ref bc, .int (nI bn)])), (out, .inl (cL, 1, .inr (.inl o0)))] sz)) 0 0 (va_A [(x, .inr (6, [.ref bf, .ref kb, .ref to, .ref ro, .ref fw, .ref sw, .ref na, .ref wo])), (bf, .inr (1, [.ref bc, .int (nI bn)])), (out, .inl (cL, 1, .inr (.inl o0)))] sz) := by
  refine va_MetW (cc := cL_count) (maxL := 4) (ret := (some .int)) (by decide) rfl ?_
  intro p e s m args below meth c s₁ B9 hml hv
  obtain ⟨rfl, hsz, ⟨hP, hK2, hD0⟩, hG⟩ := hv
  have hK := hK2.sub (tys' := [(cI, .int)]) [0] rfl
  have hx := B9.exec
  have hb := B9.bytes
  have hr := B9.returns
  have hts := atoms_spec (ws := wsL_count) B9.pre
  have htab := vx_table (x := yL_count) B9 (hts _ List.mem_cons_self)
  have hown : s.vm.findClass RL = some m.cls := findClass_of_methodNamed B9.named
  have hlocks := B9.notSynchronized
  subst hsz
  have hD := hD0.self (sz := s.heap.size)
  generalize hAe : va_A [(x, .inr (6, [.ref bf, .ref kb, .ref to, .ref ro, .ref fw, .ref sw, .ref na, .ref wo])), (bf, .inr (1, [.ref bc, .int (nI bn)])), (out, .inl (cL, 1, .inr (.inl o0)))] s.heap.size = A at hD hG ⊢
  have hE := hG.1
  have hA : ∀ q : Nat, s.heap.size ≤ q → A q := fun q h => by rw [← hAe]; exact Or.inr h
  have hS : va_S A s.heap s.heap [] := va_S.rf
  have hl := lv_entry ([.ref x, .int (nI 4), .ref out]) (n := 4) (Nat.le_of_ble_eq_true rfl)
  rw [lg_entry_eq]
  generalize (lg_sl ([.ref x, .int (nI 4), .ref out]) ++ List.replicate (4 - (lg_sl ([.ref x, .int (nI 4), .ref out])).length) Slot.unset).toArray = ls at hl ⊢
  have hl : lv_has ls 4 [(0, .ref x), (1, .int (nI 4)), (2, .ref out)] := hl
  refine lv_aload_n hx hb dL_count_0 rfl (lv_at hl 2 rfl) ?_
  refine lv_iconst (v := nI 0) hx hb dL_count_1 (by decide) ?_
  refine lv_aload_n hx hb dL_count_2 rfl (lv_at hl 0 rfl) ?_
  refine lv_iload_n hx hb dL_count_3 rfl (lv_at hl 1 rfl) ?_
  have hPc := hP.sub (ws' := [(x, .inr (6, [.ref bf, .ref kb, .ref to, .ref ro, .ref fw, .ref sw, .ref na, .ref wo])), (bf, .inr (1, [.ref bc, .int (nI bn)]))]) [0, 1] rfl
  have hDc := hD.sub (ws' := [(x, .inr (6, [.ref bf, .ref kb, .ref to, .ref ro, .ref fw, .ref sw, .ref na, .ref wo])), (bf, .inr (1, [.ref bc, .int (nI bn)]))]) [0, 1] (by decide) rfl
  have hFc := va_free (wc := [(x, .inr (6, [.ref bf, .ref kb, .ref to, .ref ro, .ref fw, .ref sw, .ref na, .ref wo])), (bf, .inr (1, [.ref bc, .int (nI bn)]))]) hD hS hA [0, 1] rfl
  refine va_calli (va_runV (As := [.int (nI 4)]) (rest := [.int (nI 0), .ref out]) ⟨hx, hb, hml, hown, hts⟩ (c_X7_count_4 l dC dI cI tS s.heap.size x bf kb to ro fw sw na wo bc bn ) (cwV 1 hts gL_count_X7_count rfl rfl rfl (by decide +kernel) ⟨Nat.le_of_ble_eq_true rfl, Nat.le_of_ble_eq_true rfl⟩) ⟨gPe_blind, va_recv hK hPc (ci := 6) (q0 := 0) rfl rfl, gPe_pre hPc hK hDc (hE.at hS) hFc⟩ rfl rfl hl.1 rfl (lv_room (Nat.le_of_ble_eq_true rfl)) dL_count_4 ⟨Nat.zero_le _, Nat.zero_le _⟩) hS (fun q _ h => hFc q h) hFc (fun r9 u8 t8 H1 locs ht hvm hw hB hz1 hk1 hS => ?_)
  try dsimp only at hw hB
  obtain ⟨hP, hD⟩ := gB_join (wr := [(out, .inl (cL, 1, .inr (.inl o0)))]) (w2 := [(out, .inl (cL, 1, .inr (.inl o0))), (x, .inr (6, [.ref bf, .ref kb, .ref to, .ref ro, .ref fw, .ref sw, .ref na, .ref wo])), (bf, .inr (1, [.ref bc, .int (nI bn)]))]) hP hD [0, 1] [2] rfl rfl (by decide) (by decide) hk1 hFc ht hB rfl
  clear hk1 hz1 ht hB hvm hPc hDc hFc
  generalize H1 = H at hP hS ⊢
  subst hw
  refine lv_i2l (v := (nI bn).toInt64) hx hb dL_count_7 rfl ?_
  refine va_last hx hb hK2 hP hD hS 0 1 rfl rfl (vp_in_nI (by decide) (by decide)) dL_count_8 (fun H locs hP hD hS => ?_)
  obtain ⟨o9_2, ho9_2⟩ : ∃ z : Nat → Int64, z = vp_updL o0 (nI 0).toNatClampNeg ((nI bn).toInt64) := ⟨_, rfl⟩
  rw [← ho9_2] at hP hD
  have ho9 : o9_2 0 = ((nI bn).toInt64) := by rw [ho9_2]; exact if_pos rfl
  have hP : va_P (dC, dI) vwCl [(out, .inl (cL, 1, .inr (.inl o9_2))), (x, .inr (6, [.ref bf, .ref kb, .ref to, .ref ro, .ref fw, .ref sw, .ref na, .ref wo])), (bf, .inr (1, [.ref bc, .int (nI bn)]))] H := hP
  have hD : va_D A [(out, .inl (cL, 1, .inr (.inl o9_2))), (x, .inr (6, [.ref bf, .ref kb, .ref to, .ref ro, .ref fw, .ref sw, .ref na, .ref wo])), (bf, .inr (1, [.ref bc, .int (nI bn)]))] := hD
  refine lv_goto (tgt := 15) hx hb dL_count_9 (by decide) ?_
  refine lv_iconst (v := nI 0) hx hb dL_count_15 (by decide) ?_
  exact W.iret (v := (nI 0)) hx hb hr (fun t ht hW => ⟨⟨_, (o9_2), rfl, ⟨rfl, ho9⟩, gB2_end ht hW (hP.sub [1, 2, 0] rfl) hK2 (hD.sub [1, 2, 0] (by decide) rfl)⟩, hS.F ht⟩) hS.2.2 dL_count_16

set_option maxHeartbeats 4000000 in
set_option maxRecDepth 100000 in
/-- the law calls type: b1 -/
theorem w_L_type_b1 (l : Launch) (hl0 : l.stackTraces = false) (dC : Nat → ClassId) (dI : Nat → Nat → Nat) (cI cL : ClassId) (tS : Nat) (sz : Nat) (x : Nat) (bf : Nat) (kb : Nat) (to : Nat) (ro : Nat) (fw : Nat) (sw : Nat) (na : Nat) (wo : Nat) (V9 : Nat) (y : Int32) (out : Nat) (o0 : Nat → Int64) (hbad : y.toInt < 1 ∨ 8 < y.toInt) : Met l yL_type wsL_type ({ frames := 7, cells := 1, slots := 6, locals := 114 }) (gPw dC dI cI cL tS [.ref x, .long (lN V9), .int y, .ref out] [(x, .inr (6, [.ref bf, .ref kb, .ref to, .ref ro, .ref fw, .ref sw, .ref na, .ref wo])), (out, .inl (cL, 1, .inr (.inl o0)))] sz) (va_Qi (fun (r7 : Int32) (_u : Unit) => r7 = (nI 1)) (fun _u t => gB2 dC dI cI cL (va_A [(x, .inr (6, [.ref bf, .ref kb, .ref to, .ref ro, .ref fw, .ref sw, .ref na, .ref wo])), (out, .inl (cL, 1, .inr (.inl o0)))] sz) [(x, .inr (6, [.ref bf, .ref kb, .ref to, .ref ro, .ref fw, .ref sw, .ref na, .ref wo])), (out, .inl (cL, 1, .inr (.inl o0)))] t) (va_A [(x, .inr (6, [.ref bf, .ref kb, .ref to, .ref ro, .ref fw, .ref sw, .ref na, .ref wo])), (out, .inl (cL, 1, .inr (.inl o0)))] sz)) 1 6 (va_A [(x, .inr (6, [.ref bf, .ref kb, .ref to, .ref ro, .ref fw, .ref sw, .ref na, .ref wo])), (out, .inl (cL, 1, .inr (.inl o0)))] sz) := by
  refine va_MetW (cc := cL_type) (maxL := 6) (ret := (some .int)) (by decide) rfl ?_
  intro p e s m args below meth c s₁ B9 hml hv
  obtain ⟨rfl, hsz, ⟨hP, hK2, hD0⟩, hG⟩ := hv
  have hK := hK2.sub (tys' := [(cI, .int)]) [0] rfl
  have hx := B9.exec
  have hb := B9.bytes
  have hr := B9.returns
  have hts := atoms_spec (ws := wsL_type) B9.pre
  have htab := vx_table (x := yL_type) B9 (hts _ List.mem_cons_self)
  have hown : s.vm.findClass RL = some m.cls := findClass_of_methodNamed B9.named
  have hlocks := B9.notSynchronized
  subst hsz
  have hD := hD0.self (sz := s.heap.size)
  generalize hAe : va_A [(x, .inr (6, [.ref bf, .ref kb, .ref to, .ref ro, .ref fw, .ref sw, .ref na, .ref wo])), (out, .inl (cL, 1, .inr (.inl o0)))] s.heap.size = A at hD hG ⊢
  have hE := hG.1
  have hA : ∀ q : Nat, s.heap.size ≤ q → A q := fun q h => by rw [← hAe]; exact Or.inr h
  have hS : va_S A s.heap s.heap [] := va_S.rf
  have hl := lv_entry ([.ref x, .long (lN V9), .int y, .ref out]) (n := 6) (Nat.le_of_ble_eq_true rfl)
  rw [lg_entry_eq]
  generalize (lg_sl ([.ref x, .long (lN V9), .int y, .ref out]) ++ List.replicate (6 - (lg_sl ([.ref x, .long (lN V9), .int y, .ref out])).length) Slot.unset).toArray = ls at hl ⊢
  have hl : lv_has ls 6 [(0, .ref x), (1, .long (lN V9)), (3, .int y), (4, .ref out)] := hl
  refine lv_aload hx hb dL_type_0 (lv_at hl 3 rfl) ?_
  refine lv_iconst (v := nI 0) hx hb dL_type_2 (by decide) ?_
  refine lv_aload_n hx hb dL_type_3 rfl (lv_at hl 0 rfl) ?_
  refine lv_lload_n hx hb dL_type_4 rfl (lv_at hl 1 rfl) ?_
  refine lv_iload_n hx hb dL_type_5 rfl (lv_at hl 2 rfl) ?_
  have hPc := hP.sub (ws' := [(x, .inr (6, [.ref bf, .ref kb, .ref to, .ref ro, .ref fw, .ref sw, .ref na, .ref wo]))]) [0] rfl
  have hDc := hD.sub (ws' := [(x, .inr (6, [.ref bf, .ref kb, .ref to, .ref ro, .ref fw, .ref sw, .ref na, .ref wo]))]) [0] (by decide) rfl
  have hFc := va_free (wc := [(x, .inr (6, [.ref bf, .ref kb, .ref to, .ref ro, .ref fw, .ref sw, .ref na, .ref wo]))]) hD hS hA [0] rfl
  refine vx_calli (vx_runV (As := [.long (lN V9), .int y]) (rest := [.int (nI 0), .ref out]) ⟨hx, hb, hml, hown, hts⟩ (x_X7_type_b1 l hl0 dC dI cI tS s.heap.size x bf kb to ro fw sw na wo V9 y hbad) (cwV 2 hts gL_type_X7_type rfl rfl rfl (by decide +kernel) ⟨Nat.le_of_ble_eq_true rfl, Nat.le_of_ble_eq_true rfl⟩) ⟨gPf_blind, va_recv hK hPc (ci := 6) (q0 := 0) rfl rfl, gPf_pre hPc hK hDc (hG.at hS) hFc⟩ rfl rfl hl.1 rfl (lv_room (Nat.le_of_ble_eq_true rfl)) dL_type_6 ⟨Nat.le_of_ble_eq_true rfl, Nat.le_of_ble_eq_true rfl⟩) hS (fun q _ h => hFc q h) hFc (fun q _ h => hFc q h) (fun E9 ce9 q9 u8 t8 H1 locs ht hvm hpx hBX hz1 hk1 hS hce hcv hcl => ?_) (fun _ => fun _ _ _ _ _ _ hpost _ _ _ _ => hpost.elim)
  try dsimp only at hBX
  obtain ⟨rfl, hB⟩ := hBX
  obtain ⟨hP, hD⟩ := gB_join (wr := [(out, .inl (cL, 1, .inr (.inl o0)))]) (w2 := [(out, .inl (cL, 1, .inr (.inl o0))), (x, .inr (6, [.ref bf, .ref kb, .ref to, .ref ro, .ref fw, .ref sw, .ref na, .ref wo]))]) hP hD [0] [1] rfl rfl (by decide) (by decide) hk1 hFc ht hB rfl
  clear hk1 hz1 ht hB hvm hPc hDc hFc
  generalize H1 = H at hP hS hce ⊢
  refine vx_catch (own := RL) (name := "java/lang/IllegalArgumentException") (E := "java/lang/IllegalArgumentException") hown [] ⟨0, 11, 14, 13⟩ [⟨0, 11, 18, 15⟩] (htab.trans rfl) (fun z hz => nomatch hz) (by decide) (by decide) (hts (.classLink RL 13 "java/lang/IllegalArgumentException") (by decide +kernel)) (hG.2.cast "java/lang/IllegalArgumentException" (by decide +kernel)) hce hcv hcl ?_
  refine W.widen (k := 1) (n := 6) (by omega) (by omega) ?_
  refine lv_astore (lv' := [(5, .ref q9), (0, .ref x), (1, .long (lN V9)), (3, .int y), (4, .ref out)]) hx hb dL_type_14 hl (by decide) rfl (fun ls hl => ?_)
  refine lv_iconst (v := nI 1) hx hb dL_type_16 (by decide) ?_
  exact W.iret (v := (nI 1)) hx hb hr (fun t ht hW => ⟨⟨_, (), rfl, rfl, gB2_end ht hW (hP.sub [1, 0] rfl) hK2 (hD.sub [1, 0] (by decide) rfl)⟩, hS.F ht⟩) hS.2.2 dL_type_17

set_option maxHeartbeats 4000000 in
set_option maxRecDepth 100000 in
/-- the law calls type: b2 -/
theorem w_L_type_b2 (l : Launch) (hl0 : l.stackTraces = false) (dC : Nat → ClassId) (dI : Nat → Nat → Nat) (cI cL : ClassId) (tS : Nat) (sz : Nat) (x : Nat) (bf : Nat) (kb : Nat) (to : Nat) (ro : Nat) (fw : Nat) (sw : Nat) (na : Nat) (wo : Nat) (bc : Nat) (bn : Nat) (V9 : Nat) (n : Nat) (out : Nat) (o0 : Nat → Int64) (hn1 : 1 ≤ n) (hn2 : n ≤ 8) (hbn : 64 < bn + n) (hb : bn ≤ 64) : Met l yL_type wsL_type ({ frames := 7, cells := 1, slots := 6, locals := 114 }) (gPw dC dI cI cL tS [.ref x, .long (lN V9), .int (nI n), .ref out] [(x, .inr (6, [.ref bf, .ref kb, .ref to, .ref ro, .ref fw, .ref sw, .ref na, .ref wo])), (bf, .inr (1, [.ref bc, .int (nI bn)])), (out, .inl (cL, 1, .inr (.inl o0)))] sz) (va_Qi (fun (r7 : Int32) (_u : Unit) => r7 = (nI 2)) (fun _u t => gB2 dC dI cI cL (va_A [(x, .inr (6, [.ref bf, .ref kb, .ref to, .ref ro, .ref fw, .ref sw, .ref na, .ref wo])), (bf, .inr (1, [.ref bc, .int (nI bn)])), (out, .inl (cL, 1, .inr (.inl o0)))] sz) [(x, .inr (6, [.ref bf, .ref kb, .ref to, .ref ro, .ref fw, .ref sw, .ref na, .ref wo])), (bf, .inr (1, [.ref bc, .int (nI bn)])), (out, .inl (cL, 1, .inr (.inl o0)))] t) (va_A [(x, .inr (6, [.ref bf, .ref kb, .ref to, .ref ro, .ref fw, .ref sw, .ref na, .ref wo])), (bf, .inr (1, [.ref bc, .int (nI bn)])), (out, .inl (cL, 1, .inr (.inl o0)))] sz)) 1 6 (va_A [(x, .inr (6, [.ref bf, .ref kb, .ref to, .ref ro, .ref fw, .ref sw, .ref na, .ref wo])), (bf, .inr (1, [.ref bc, .int (nI bn)])), (out, .inl (cL, 1, .inr (.inl o0)))] sz) := by
  refine va_MetW (cc := cL_type) (maxL := 6) (ret := (some .int)) (by decide) rfl ?_
  intro p e s m args below meth c s₁ B9 hml hv
  obtain ⟨rfl, hsz, ⟨hP, hK2, hD0⟩, hG⟩ := hv
  have hK := hK2.sub (tys' := [(cI, .int)]) [0] rfl
  have hx := B9.exec
  have hb := B9.bytes
  have hr := B9.returns
  have hts := atoms_spec (ws := wsL_type) B9.pre
  have htab := vx_table (x := yL_type) B9 (hts _ List.mem_cons_self)
  have hown : s.vm.findClass RL = some m.cls := findClass_of_methodNamed B9.named
  have hlocks := B9.notSynchronized
  subst hsz
  have hD := hD0.self (sz := s.heap.size)
  generalize hAe : va_A [(x, .inr (6, [.ref bf, .ref kb, .ref to, .ref ro, .ref fw, .ref sw, .ref na, .ref wo])), (bf, .inr (1, [.ref bc, .int (nI bn)])), (out, .inl (cL, 1, .inr (.inl o0)))] s.heap.size = A at hD hG ⊢
  have hE := hG.1
  have hA : ∀ q : Nat, s.heap.size ≤ q → A q := fun q h => by rw [← hAe]; exact Or.inr h
  have hS : va_S A s.heap s.heap [] := va_S.rf
  have hl := lv_entry ([.ref x, .long (lN V9), .int (nI n), .ref out]) (n := 6) (Nat.le_of_ble_eq_true rfl)
  rw [lg_entry_eq]
  generalize (lg_sl ([.ref x, .long (lN V9), .int (nI n), .ref out]) ++ List.replicate (6 - (lg_sl ([.ref x, .long (lN V9), .int (nI n), .ref out])).length) Slot.unset).toArray = ls at hl ⊢
  have hl : lv_has ls 6 [(0, .ref x), (1, .long (lN V9)), (3, .int (nI n)), (4, .ref out)] := hl
  refine lv_aload hx hb dL_type_0 (lv_at hl 3 rfl) ?_
  refine lv_iconst (v := nI 0) hx hb dL_type_2 (by decide) ?_
  refine lv_aload_n hx hb dL_type_3 rfl (lv_at hl 0 rfl) ?_
  refine lv_lload_n hx hb dL_type_4 rfl (lv_at hl 1 rfl) ?_
  refine lv_iload_n hx hb dL_type_5 rfl (lv_at hl 2 rfl) ?_
  have hPc := hP.sub (ws' := [(x, .inr (6, [.ref bf, .ref kb, .ref to, .ref ro, .ref fw, .ref sw, .ref na, .ref wo])), (bf, .inr (1, [.ref bc, .int (nI bn)]))]) [0, 1] rfl
  have hDc := hD.sub (ws' := [(x, .inr (6, [.ref bf, .ref kb, .ref to, .ref ro, .ref fw, .ref sw, .ref na, .ref wo])), (bf, .inr (1, [.ref bc, .int (nI bn)]))]) [0, 1] (by decide) rfl
  have hFc := va_free (wc := [(x, .inr (6, [.ref bf, .ref kb, .ref to, .ref ro, .ref fw, .ref sw, .ref na, .ref wo])), (bf, .inr (1, [.ref bc, .int (nI bn)]))]) hD hS hA [0, 1] rfl
  refine vx_calli (vx_runV (As := [.long (lN V9), .int (nI n)]) (rest := [.int (nI 0), .ref out]) ⟨hx, hb, hml, hown, hts⟩ (x_X7_type_b2 l hl0 dC dI cI tS s.heap.size x bf kb to ro fw sw na wo bc bn V9 n hn1 hn2 hbn (by omega)) (cwV 2 hts gL_type_X7_type rfl rfl rfl (by decide +kernel) ⟨Nat.le_of_ble_eq_true rfl, Nat.le_of_ble_eq_true rfl⟩) ⟨gPf_blind, va_recv hK hPc (ci := 6) (q0 := 0) rfl rfl, gPf_pre hPc hK hDc (hG.at hS) hFc⟩ rfl rfl hl.1 rfl (lv_room (Nat.le_of_ble_eq_true rfl)) dL_type_6 ⟨Nat.le_of_ble_eq_true rfl, Nat.le_of_ble_eq_true rfl⟩) hS (fun q _ h => hFc q h) hFc (fun q _ h => hFc q h) (fun E9 ce9 q9 u8 t8 H1 locs ht hvm hpx hBX hz1 hk1 hS hce hcv hcl => ?_) (fun _ => fun _ _ _ _ _ _ hpost _ _ _ _ => hpost.elim)
  try dsimp only at hBX
  obtain ⟨rfl, hB⟩ := hBX
  obtain ⟨hP, hD⟩ := gB_join (wr := [(out, .inl (cL, 1, .inr (.inl o0)))]) (w2 := [(out, .inl (cL, 1, .inr (.inl o0))), (x, .inr (6, [.ref bf, .ref kb, .ref to, .ref ro, .ref fw, .ref sw, .ref na, .ref wo])), (bf, .inr (1, [.ref bc, .int (nI bn)]))]) hP hD [0, 1] [2] rfl rfl (by decide) (by decide) hk1 hFc ht hB rfl
  clear hk1 hz1 ht hB hvm hPc hDc hFc
  generalize H1 = H at hP hS hce ⊢
  refine vx_catch (own := RL) (name := "java/lang/UnsupportedOperationException") (E := "java/lang/UnsupportedOperationException") hown [⟨0, 11, 14, 13⟩] ⟨0, 11, 18, 15⟩ [] (htab.trans rfl) (fun z hz => by cases List.mem_singleton.mp hz; exact Or.inr ⟨by decide, "java/lang/IllegalArgumentException", hts (.classLink RL 13 "java/lang/IllegalArgumentException") (by decide +kernel), hG.2.2.2.2.2.1⟩) (by decide) (by decide) (hts (.classLink RL 15 "java/lang/UnsupportedOperationException") (by decide +kernel)) (hG.2.cast "java/lang/UnsupportedOperationException" (by decide +kernel)) hce hcv hcl ?_
  refine W.widen (k := 1) (n := 6) (by omega) (by omega) ?_
  refine lv_astore (lv' := [(5, .ref q9), (0, .ref x), (1, .long (lN V9)), (3, .int (nI n)), (4, .ref out)]) hx hb dL_type_18 hl (by decide) rfl (fun ls hl => ?_)
  refine lv_iconst (v := nI 2) hx hb dL_type_20 (by decide) ?_
  exact W.iret (v := (nI 2)) hx hb hr (fun t ht hW => ⟨⟨_, (), rfl, rfl, gB2_end ht hW (hP.sub [1, 2, 0] rfl) hK2 (hD.sub [1, 2, 0] (by decide) rfl)⟩, hS.F ht⟩) hS.2.2 dL_type_21

set_option maxHeartbeats 4000000 in
set_option maxRecDepth 100000 in
/-- the law calls keep: b1 -/
theorem w_L_keep_b1 (l : Launch) (hl0 : l.stackTraces = false) (dC : Nat → ClassId) (dI : Nat → Nat → Nat) (cI cL : ClassId) (tS : Nat) (sz : Nat) (x : Nat) (bf : Nat) (kb : Nat) (to : Nat) (ro : Nat) (fw : Nat) (sw : Nat) (na : Nat) (wo : Nat) (bc : Nat) (bn : Nat) (y : Int32) (hb : bn ≤ 64) (hbad : y.toInt < 0 ∨ (bn : Int) < y.toInt) : Met l yL_keep wsL_keep ({ frames := 7, cells := 1, slots := 6, locals := 111 }) (gPw dC dI cI cL tS [.ref x, .int y] [(x, .inr (6, [.ref bf, .ref kb, .ref to, .ref ro, .ref fw, .ref sw, .ref na, .ref wo])), (bf, .inr (1, [.ref bc, .int (nI bn)]))] sz) (va_Qi (fun (r7 : Int32) (_u : Unit) => r7 = (nI 1)) (fun _u t => gB2 dC dI cI cL (va_A [(x, .inr (6, [.ref bf, .ref kb, .ref to, .ref ro, .ref fw, .ref sw, .ref na, .ref wo])), (bf, .inr (1, [.ref bc, .int (nI bn)]))] sz) [(x, .inr (6, [.ref bf, .ref kb, .ref to, .ref ro, .ref fw, .ref sw, .ref na, .ref wo])), (bf, .inr (1, [.ref bc, .int (nI bn)]))] t) (va_A [(x, .inr (6, [.ref bf, .ref kb, .ref to, .ref ro, .ref fw, .ref sw, .ref na, .ref wo])), (bf, .inr (1, [.ref bc, .int (nI bn)]))] sz)) 1 6 (va_A [(x, .inr (6, [.ref bf, .ref kb, .ref to, .ref ro, .ref fw, .ref sw, .ref na, .ref wo])), (bf, .inr (1, [.ref bc, .int (nI bn)]))] sz) := by
  refine va_MetW (cc := cL_keep) (maxL := 3) (ret := (some .int)) (by decide) rfl ?_
  intro p e s m args below meth c s₁ B9 hml hv
  obtain ⟨rfl, hsz, ⟨hP, hK2, hD0⟩, hG⟩ := hv
  have hK := hK2.sub (tys' := [(cI, .int)]) [0] rfl
  have hx := B9.exec
  have hb := B9.bytes
  have hr := B9.returns
  have hts := atoms_spec (ws := wsL_keep) B9.pre
  have htab := vx_table (x := yL_keep) B9 (hts _ List.mem_cons_self)
  have hown : s.vm.findClass RL = some m.cls := findClass_of_methodNamed B9.named
  have hlocks := B9.notSynchronized
  subst hsz
  have hD := hD0.self (sz := s.heap.size)
  generalize hAe : va_A [(x, .inr (6, [.ref bf, .ref kb, .ref to, .ref ro, .ref fw, .ref sw, .ref na, .ref wo])), (bf, .inr (1, [.ref bc, .int (nI bn)]))] s.heap.size = A at hD hG ⊢
  have hE := hG.1
  have hA : ∀ q : Nat, s.heap.size ≤ q → A q := fun q h => by rw [← hAe]; exact Or.inr h
  have hS : va_S A s.heap s.heap [] := va_S.rf
  have hl := lv_entry ([.ref x, .int y]) (n := 3) (Nat.le_of_ble_eq_true rfl)
  rw [lg_entry_eq]
  generalize (lg_sl ([.ref x, .int y]) ++ List.replicate (3 - (lg_sl ([.ref x, .int y])).length) Slot.unset).toArray = ls at hl ⊢
  have hl : lv_has ls 3 [(0, .ref x), (1, .int y)] := hl
  refine lv_aload_n hx hb dL_keep_0 rfl (lv_at hl 0 rfl) ?_
  refine lv_iload_n hx hb dL_keep_1 rfl (lv_at hl 1 rfl) ?_
  have hPc := hP.sub (ws' := [(x, .inr (6, [.ref bf, .ref kb, .ref to, .ref ro, .ref fw, .ref sw, .ref na, .ref wo])), (bf, .inr (1, [.ref bc, .int (nI bn)]))]) [0, 1] rfl
  have hDc := hD.sub (ws' := [(x, .inr (6, [.ref bf, .ref kb, .ref to, .ref ro, .ref fw, .ref sw, .ref na, .ref wo])), (bf, .inr (1, [.ref bc, .int (nI bn)]))]) [0, 1] (by decide) rfl
  have hFc := va_free (wc := [(x, .inr (6, [.ref bf, .ref kb, .ref to, .ref ro, .ref fw, .ref sw, .ref na, .ref wo])), (bf, .inr (1, [.ref bc, .int (nI bn)]))]) hD hS hA [0, 1] rfl
  refine vx_callv (vx_runV (As := [.int y]) (rest := []) ⟨hx, hb, hml, hown, hts⟩ (x_X7_keep_b1 l hl0 dC dI cI tS s.heap.size x bf kb to ro fw sw na wo bc bn y (by omega) hbad) (cwV 1 hts gL_keep_X7_keep rfl rfl rfl (by decide +kernel) ⟨Nat.le_of_ble_eq_true rfl, Nat.le_of_ble_eq_true rfl⟩) ⟨gPf_blind, va_recv hK hPc (ci := 6) (q0 := 0) rfl rfl, gPf_pre hPc hK hDc (hG.at hS) hFc⟩ rfl rfl hl.1 rfl (lv_room (Nat.le_of_ble_eq_true rfl)) dL_keep_2 ⟨Nat.le_of_ble_eq_true rfl, Nat.le_of_ble_eq_true rfl⟩) hS (fun q _ h => hFc q h) hFc (fun q _ h => hFc q h) (fun E9 ce9 q9 u8 t8 H1 locs ht hvm hpx hBX hz1 hk1 hS hce hcv hcl => ?_) (fun _ _ _ _ _ _ hpost _ _ _ _ => hpost.elim)
  try dsimp only at hBX
  obtain ⟨rfl, hB⟩ := hBX
  obtain ⟨hP, hD⟩ := gB_join (wr := []) (w2 := [(x, .inr (6, [.ref bf, .ref kb, .ref to, .ref ro, .ref fw, .ref sw, .ref na, .ref wo])), (bf, .inr (1, [.ref bc, .int (nI bn)]))]) hP hD [0, 1] [] rfl rfl (by decide) (by decide) hk1 hFc ht hB rfl
  clear hk1 hz1 ht hB hvm hPc hDc hFc
  generalize H1 = H at hP hS hce ⊢
  refine vx_catch (own := RL) (name := "java/lang/IllegalArgumentException") (E := "java/lang/IllegalArgumentException") hown [] ⟨0, 5, 8, 13⟩ [] (htab.trans rfl) (fun z hz => nomatch hz) (by decide) (by decide) (hts (.classLink RL 13 "java/lang/IllegalArgumentException") (by decide +kernel)) (hG.2.cast "java/lang/IllegalArgumentException" (by decide +kernel)) hce hcv hcl ?_
  refine W.widen (k := 1) (n := 6) (by omega) (by omega) ?_
  refine lv_astore_n (lv' := [(2, .ref q9), (0, .ref x), (1, .int y)]) hx hb dL_keep_8 rfl hl (by decide) rfl (fun ls hl => ?_)
  refine lv_iconst (v := nI 1) hx hb dL_keep_9 (by decide) ?_
  exact W.iret (v := (nI 1)) hx hb hr (fun t ht hW => ⟨⟨_, (), rfl, rfl, gB2_end ht hW hP hK2 hD⟩, hS.F ht⟩) hS.2.2 dL_keep_10

set_option maxHeartbeats 4000000 in
set_option maxRecDepth 100000 in
/-- the law calls typed: b1 -/
theorem w_L_typed_b1 (l : Launch) (hl0 : l.stackTraces = false) (dC : Nat → ClassId) (dI : Nat → Nat → Nat) (cI cL : ClassId) (tS : Nat) (sz : Nat) (x : Nat) (bf : Nat) (kb : Nat) (to : Nat) (ro : Nat) (fw : Nat) (sw : Nat) (na : Nat) (wo : Nat) (bc : Nat) (bn : Nat) (y : Int32) (out : Nat) (o0 : Nat → Int64) (hb : bn ≤ 64) (hbad : y.toInt < 0 ∨ (bn : Int) ≤ y.toInt) : Met l yL_typed wsL_typed ({ frames := 7, cells := 1, slots := 6, locals := 111 }) (gPw dC dI cI cL tS [.ref x, .int y, .ref out] [(x, .inr (6, [.ref bf, .ref kb, .ref to, .ref ro, .ref fw, .ref sw, .ref na, .ref wo])), (bf, .inr (1, [.ref bc, .int (nI bn)])), (out, .inl (cL, 1, .inr (.inl o0)))] sz) (va_Qi (fun (r7 : Int32) (_u : Unit) => r7 = (nI 1)) (fun _u t => gB2 dC dI cI cL (va_A [(x, .inr (6, [.ref bf, .ref kb, .ref to, .ref ro, .ref fw, .ref sw, .ref na, .ref wo])), (bf, .inr (1, [.ref bc, .int (nI bn)])), (out, .inl (cL, 1, .inr (.inl o0)))] sz) [(x, .inr (6, [.ref bf, .ref kb, .ref to, .ref ro, .ref fw, .ref sw, .ref na, .ref wo])), (bf, .inr (1, [.ref bc, .int (nI bn)])), (out, .inl (cL, 1, .inr (.inl o0)))] t) (va_A [(x, .inr (6, [.ref bf, .ref kb, .ref to, .ref ro, .ref fw, .ref sw, .ref na, .ref wo])), (bf, .inr (1, [.ref bc, .int (nI bn)])), (out, .inl (cL, 1, .inr (.inl o0)))] sz)) 1 6 (va_A [(x, .inr (6, [.ref bf, .ref kb, .ref to, .ref ro, .ref fw, .ref sw, .ref na, .ref wo])), (bf, .inr (1, [.ref bc, .int (nI bn)])), (out, .inl (cL, 1, .inr (.inl o0)))] sz) := by
  refine va_MetW (cc := cL_typed) (maxL := 4) (ret := (some .int)) (by decide) rfl ?_
  intro p e s m args below meth c s₁ B9 hml hv
  obtain ⟨rfl, hsz, ⟨hP, hK2, hD0⟩, hG⟩ := hv
  have hK := hK2.sub (tys' := [(cI, .int)]) [0] rfl
  have hx := B9.exec
  have hb := B9.bytes
  have hr := B9.returns
  have hts := atoms_spec (ws := wsL_typed) B9.pre
  have htab := vx_table (x := yL_typed) B9 (hts _ List.mem_cons_self)
  have hown : s.vm.findClass RL = some m.cls := findClass_of_methodNamed B9.named
  have hlocks := B9.notSynchronized
  subst hsz
  have hD := hD0.self (sz := s.heap.size)
  generalize hAe : va_A [(x, .inr (6, [.ref bf, .ref kb, .ref to, .ref ro, .ref fw, .ref sw, .ref na, .ref wo])), (bf, .inr (1, [.ref bc, .int (nI bn)])), (out, .inl (cL, 1, .inr (.inl o0)))] s.heap.size = A at hD hG ⊢
  have hE := hG.1
  have hA : ∀ q : Nat, s.heap.size ≤ q → A q := fun q h => by rw [← hAe]; exact Or.inr h
  have hS : va_S A s.heap s.heap [] := va_S.rf
  have hl := lv_entry ([.ref x, .int y, .ref out]) (n := 4) (Nat.le_of_ble_eq_true rfl)
  rw [lg_entry_eq]
  generalize (lg_sl ([.ref x, .int y, .ref out]) ++ List.replicate (4 - (lg_sl ([.ref x, .int y, .ref out])).length) Slot.unset).toArray = ls at hl ⊢
  have hl : lv_has ls 4 [(0, .ref x), (1, .int y), (2, .ref out)] := hl
  refine lv_aload_n hx hb dL_typed_0 rfl (lv_at hl 2 rfl) ?_
  refine lv_iconst (v := nI 0) hx hb dL_typed_1 (by decide) ?_
  refine lv_aload_n hx hb dL_typed_2 rfl (lv_at hl 0 rfl) ?_
  refine lv_iload_n hx hb dL_typed_3 rfl (lv_at hl 1 rfl) ?_
  have hPc := hP.sub (ws' := [(x, .inr (6, [.ref bf, .ref kb, .ref to, .ref ro, .ref fw, .ref sw, .ref na, .ref wo])), (bf, .inr (1, [.ref bc, .int (nI bn)]))]) [0, 1] rfl
  have hDc := hD.sub (ws' := [(x, .inr (6, [.ref bf, .ref kb, .ref to, .ref ro, .ref fw, .ref sw, .ref na, .ref wo])), (bf, .inr (1, [.ref bc, .int (nI bn)]))]) [0, 1] (by decide) rfl
  have hFc := va_free (wc := [(x, .inr (6, [.ref bf, .ref kb, .ref to, .ref ro, .ref fw, .ref sw, .ref na, .ref wo])), (bf, .inr (1, [.ref bc, .int (nI bn)]))]) hD hS hA [0, 1] rfl
  refine vx_calli (vx_runV (As := [.int y]) (rest := [.int (nI 0), .ref out]) ⟨hx, hb, hml, hown, hts⟩ (x_X7_typed_b1 l hl0 dC dI cI tS s.heap.size x bf kb to ro fw sw na wo bc bn y (by omega) hbad) (cwV 1 hts gL_typed_X7_typed rfl rfl rfl (by decide +kernel) ⟨Nat.le_of_ble_eq_true rfl, Nat.le_of_ble_eq_true rfl⟩) ⟨gPf_blind, va_recv hK hPc (ci := 6) (q0 := 0) rfl rfl, gPf_pre hPc hK hDc (hG.at hS) hFc⟩ rfl rfl hl.1 rfl (lv_room (Nat.le_of_ble_eq_true rfl)) dL_typed_4 ⟨Nat.le_of_ble_eq_true rfl, Nat.le_of_ble_eq_true rfl⟩) hS (fun q _ h => hFc q h) hFc (fun q _ h => hFc q h) (fun E9 ce9 q9 u8 t8 H1 locs ht hvm hpx hBX hz1 hk1 hS hce hcv hcl => ?_) (fun _ => fun _ _ _ _ _ _ hpost _ _ _ _ => hpost.elim)
  try dsimp only at hBX
  obtain ⟨rfl, hB⟩ := hBX
  obtain ⟨hP, hD⟩ := gB_join (wr := [(out, .inl (cL, 1, .inr (.inl o0)))]) (w2 := [(out, .inl (cL, 1, .inr (.inl o0))), (x, .inr (6, [.ref bf, .ref kb, .ref to, .ref ro, .ref fw, .ref sw, .ref na, .ref wo])), (bf, .inr (1, [.ref bc, .int (nI bn)]))]) hP hD [0, 1] [2] rfl rfl (by decide) (by decide) hk1 hFc ht hB rfl
  clear hk1 hz1 ht hB hvm hPc hDc hFc
  generalize H1 = H at hP hS hce ⊢
  refine vx_catch (own := RL) (name := "java/lang/IndexOutOfBoundsException") (E := "java/lang/IndexOutOfBoundsException") hown [] ⟨0, 9, 12, 25⟩ [] (htab.trans rfl) (fun z hz => nomatch hz) (by decide) (by decide) (hts (.classLink RL 25 "java/lang/IndexOutOfBoundsException") (by decide +kernel)) (hG.2.cast "java/lang/IndexOutOfBoundsException" (by decide +kernel)) hce hcv hcl ?_
  refine W.widen (k := 1) (n := 6) (by omega) (by omega) ?_
  refine lv_astore_n (lv' := [(3, .ref q9), (0, .ref x), (1, .int y), (2, .ref out)]) hx hb dL_typed_12 rfl hl (by decide) rfl (fun ls hl => ?_)
  refine lv_iconst (v := nI 1) hx hb dL_typed_13 (by decide) ?_
  exact W.iret (v := (nI 1)) hx hb hr (fun t ht hW => ⟨⟨_, (), rfl, rfl, gB2_end ht hW (hP.sub [1, 2, 0] rfl) hK2 (hD.sub [1, 2, 0] (by decide) rfl)⟩, hS.F ht⟩) hS.2.2 dL_typed_14

set_option maxHeartbeats 4000000 in
set_option maxRecDepth 100000 in
/-- the law calls key: b1 -/
theorem w_L_key_b1 (l : Launch) (hl0 : l.stackTraces = false) (dC : Nat → ClassId) (dI : Nat → Nat → Nat) (cI cL : ClassId) (tS : Nat) (sz : Nat) (x : Nat) (bf : Nat) (kb : Nat) (to : Nat) (ro : Nat) (fw : Nat) (sw : Nat) (na : Nat) (wo : Nat) (bc : Nat) (bn : Nat) (out : Nat) (o0 : Nat → Int64) (hb : bn ≤ 64) (hbad : bn ≠ 16 ∧ bn ≠ 24 ∧ bn ≠ 32) : Met l yL_key wsL_key ({ frames := 7, cells := 1, slots := 6, locals := 110 }) (gPw dC dI cI cL tS [.ref x, .ref out] [(x, .inr (6, [.ref bf, .ref kb, .ref to, .ref ro, .ref fw, .ref sw, .ref na, .ref wo])), (bf, .inr (1, [.ref bc, .int (nI bn)])), (out, .inl (cL, 1, .inr (.inl o0)))] sz) (va_Qi (fun (r7 : Int32) (_u : Unit) => r7 = (nI 1)) (fun _u t => gB2 dC dI cI cL (va_A [(x, .inr (6, [.ref bf, .ref kb, .ref to, .ref ro, .ref fw, .ref sw, .ref na, .ref wo])), (bf, .inr (1, [.ref bc, .int (nI bn)])), (out, .inl (cL, 1, .inr (.inl o0)))] sz) [(x, .inr (6, [.ref bf, .ref kb, .ref to, .ref ro, .ref fw, .ref sw, .ref na, .ref wo])), (bf, .inr (1, [.ref bc, .int (nI bn)])), (out, .inl (cL, 1, .inr (.inl o0)))] t) (va_A [(x, .inr (6, [.ref bf, .ref kb, .ref to, .ref ro, .ref fw, .ref sw, .ref na, .ref wo])), (bf, .inr (1, [.ref bc, .int (nI bn)])), (out, .inl (cL, 1, .inr (.inl o0)))] sz)) 1 6 (va_A [(x, .inr (6, [.ref bf, .ref kb, .ref to, .ref ro, .ref fw, .ref sw, .ref na, .ref wo])), (bf, .inr (1, [.ref bc, .int (nI bn)])), (out, .inl (cL, 1, .inr (.inl o0)))] sz) := by
  refine va_MetW (cc := cL_key) (maxL := 3) (ret := (some .int)) (by decide) rfl ?_
  intro p e s m args below meth c s₁ B9 hml hv
  obtain ⟨rfl, hsz, ⟨hP, hK2, hD0⟩, hG⟩ := hv
  have hK := hK2.sub (tys' := [(cI, .int)]) [0] rfl
  have hx := B9.exec
  have hb := B9.bytes
  have hr := B9.returns
  have hts := atoms_spec (ws := wsL_key) B9.pre
  have htab := vx_table (x := yL_key) B9 (hts _ List.mem_cons_self)
  have hown : s.vm.findClass RL = some m.cls := findClass_of_methodNamed B9.named
  have hlocks := B9.notSynchronized
  subst hsz
  have hD := hD0.self (sz := s.heap.size)
  generalize hAe : va_A [(x, .inr (6, [.ref bf, .ref kb, .ref to, .ref ro, .ref fw, .ref sw, .ref na, .ref wo])), (bf, .inr (1, [.ref bc, .int (nI bn)])), (out, .inl (cL, 1, .inr (.inl o0)))] s.heap.size = A at hD hG ⊢
  have hE := hG.1
  have hA : ∀ q : Nat, s.heap.size ≤ q → A q := fun q h => by rw [← hAe]; exact Or.inr h
  have hS : va_S A s.heap s.heap [] := va_S.rf
  have hl := lv_entry ([.ref x, .ref out]) (n := 3) (Nat.le_of_ble_eq_true rfl)
  rw [lg_entry_eq]
  generalize (lg_sl ([.ref x, .ref out]) ++ List.replicate (3 - (lg_sl ([.ref x, .ref out])).length) Slot.unset).toArray = ls at hl ⊢
  have hl : lv_has ls 3 [(0, .ref x), (1, .ref out)] := hl
  refine lv_aload_n hx hb dL_key_0 rfl (lv_at hl 1 rfl) ?_
  refine lv_iconst (v := nI 0) hx hb dL_key_1 (by decide) ?_
  refine lv_aload_n hx hb dL_key_2 rfl (lv_at hl 0 rfl) ?_
  have hPc := hP.sub (ws' := [(x, .inr (6, [.ref bf, .ref kb, .ref to, .ref ro, .ref fw, .ref sw, .ref na, .ref wo])), (bf, .inr (1, [.ref bc, .int (nI bn)]))]) [0, 1] rfl
  have hDc := hD.sub (ws' := [(x, .inr (6, [.ref bf, .ref kb, .ref to, .ref ro, .ref fw, .ref sw, .ref na, .ref wo])), (bf, .inr (1, [.ref bc, .int (nI bn)]))]) [0, 1] (by decide) rfl
  have hFc := va_free (wc := [(x, .inr (6, [.ref bf, .ref kb, .ref to, .ref ro, .ref fw, .ref sw, .ref na, .ref wo])), (bf, .inr (1, [.ref bc, .int (nI bn)]))]) hD hS hA [0, 1] rfl
  refine vx_calli (vx_runV (As := []) (rest := [.int (nI 0), .ref out]) ⟨hx, hb, hml, hown, hts⟩ (x_X7_key_b1 l hl0 dC dI cI tS s.heap.size x bf kb to ro fw sw na wo bc bn (by omega) hbad) (cwV 0 hts gL_key_X7_key rfl rfl rfl (by decide +kernel) ⟨Nat.le_of_ble_eq_true rfl, Nat.le_of_ble_eq_true rfl⟩) ⟨gPf_blind, va_recv hK hPc (ci := 6) (q0 := 0) rfl rfl, gPf_pre hPc hK hDc (hG.at hS) hFc⟩ rfl rfl hl.1 rfl (lv_room (Nat.le_of_ble_eq_true rfl)) dL_key_3 ⟨Nat.le_of_ble_eq_true rfl, Nat.le_of_ble_eq_true rfl⟩) hS (fun q _ h => hFc q h) hFc (fun q _ h => hFc q h) (fun E9 ce9 q9 u8 t8 H1 locs ht hvm hpx hBX hz1 hk1 hS hce hcv hcl => ?_) (fun _ => fun _ _ _ _ _ _ hpost _ _ _ _ => hpost.elim)
  try dsimp only at hBX
  obtain ⟨rfl, hB⟩ := hBX
  obtain ⟨hP, hD⟩ := gB_join (wr := [(out, .inl (cL, 1, .inr (.inl o0)))]) (w2 := [(out, .inl (cL, 1, .inr (.inl o0))), (x, .inr (6, [.ref bf, .ref kb, .ref to, .ref ro, .ref fw, .ref sw, .ref na, .ref wo])), (bf, .inr (1, [.ref bc, .int (nI bn)]))]) hP hD [0, 1] [2] rfl rfl (by decide) (by decide) hk1 hFc ht hB rfl
  clear hk1 hz1 ht hB hvm hPc hDc hFc
  generalize H1 = H at hP hS hce ⊢
  refine vx_catch (own := RL) (name := "java/lang/IllegalArgumentException") (E := "java/lang/IllegalArgumentException") hown [] ⟨0, 8, 11, 13⟩ [] (htab.trans rfl) (fun z hz => nomatch hz) (by decide) (by decide) (hts (.classLink RL 13 "java/lang/IllegalArgumentException") (by decide +kernel)) (hG.2.cast "java/lang/IllegalArgumentException" (by decide +kernel)) hce hcv hcl ?_
  refine W.widen (k := 1) (n := 6) (by omega) (by omega) ?_
  refine lv_astore_n (lv' := [(2, .ref q9), (0, .ref x), (1, .ref out)]) hx hb dL_key_11 rfl hl (by decide) rfl (fun ls hl => ?_)
  refine lv_iconst (v := nI 1) hx hb dL_key_12 (by decide) ?_
  exact W.iret (v := (nI 1)) hx hb hr (fun t ht hW => ⟨⟨_, (), rfl, rfl, gB2_end ht hW (hP.sub [1, 2, 0] rfl) hK2 (hD.sub [1, 2, 0] (by decide) rfl)⟩, hS.F ht⟩) hS.2.2 dL_key_13

set_option maxHeartbeats 4000000 in
set_option maxRecDepth 100000 in
/-- the law calls tweak: b1 -/
theorem w_L_tweak_b1 (l : Launch) (hl0 : l.stackTraces = false) (dC : Nat → ClassId) (dI : Nat → Nat → Nat) (cI cL : ClassId) (tS : Nat) (sz : Nat) (x : Nat) (bf : Nat) (kb : Nat) (to : Nat) (ro : Nat) (fw : Nat) (sw : Nat) (na : Nat) (wo : Nat) (bc : Nat) (bn : Nat) (out : Nat) (o0 : Nat → Int64) (hb : bn ≤ 64) (hbad : 32 < bn) : Met l yL_tweak wsL_tweak ({ frames := 7, cells := 1, slots := 6, locals := 110 }) (gPw dC dI cI cL tS [.ref x, .ref out] [(x, .inr (6, [.ref bf, .ref kb, .ref to, .ref ro, .ref fw, .ref sw, .ref na, .ref wo])), (bf, .inr (1, [.ref bc, .int (nI bn)])), (out, .inl (cL, 1, .inr (.inl o0)))] sz) (va_Qi (fun (r7 : Int32) (_u : Unit) => r7 = (nI 1)) (fun _u t => gB2 dC dI cI cL (va_A [(x, .inr (6, [.ref bf, .ref kb, .ref to, .ref ro, .ref fw, .ref sw, .ref na, .ref wo])), (bf, .inr (1, [.ref bc, .int (nI bn)])), (out, .inl (cL, 1, .inr (.inl o0)))] sz) [(x, .inr (6, [.ref bf, .ref kb, .ref to, .ref ro, .ref fw, .ref sw, .ref na, .ref wo])), (bf, .inr (1, [.ref bc, .int (nI bn)])), (out, .inl (cL, 1, .inr (.inl o0)))] t) (va_A [(x, .inr (6, [.ref bf, .ref kb, .ref to, .ref ro, .ref fw, .ref sw, .ref na, .ref wo])), (bf, .inr (1, [.ref bc, .int (nI bn)])), (out, .inl (cL, 1, .inr (.inl o0)))] sz)) 1 6 (va_A [(x, .inr (6, [.ref bf, .ref kb, .ref to, .ref ro, .ref fw, .ref sw, .ref na, .ref wo])), (bf, .inr (1, [.ref bc, .int (nI bn)])), (out, .inl (cL, 1, .inr (.inl o0)))] sz) := by
  refine va_MetW (cc := cL_tweak) (maxL := 3) (ret := (some .int)) (by decide) rfl ?_
  intro p e s m args below meth c s₁ B9 hml hv
  obtain ⟨rfl, hsz, ⟨hP, hK2, hD0⟩, hG⟩ := hv
  have hK := hK2.sub (tys' := [(cI, .int)]) [0] rfl
  have hx := B9.exec
  have hb := B9.bytes
  have hr := B9.returns
  have hts := atoms_spec (ws := wsL_tweak) B9.pre
  have htab := vx_table (x := yL_tweak) B9 (hts _ List.mem_cons_self)
  have hown : s.vm.findClass RL = some m.cls := findClass_of_methodNamed B9.named
  have hlocks := B9.notSynchronized
  subst hsz
  have hD := hD0.self (sz := s.heap.size)
  generalize hAe : va_A [(x, .inr (6, [.ref bf, .ref kb, .ref to, .ref ro, .ref fw, .ref sw, .ref na, .ref wo])), (bf, .inr (1, [.ref bc, .int (nI bn)])), (out, .inl (cL, 1, .inr (.inl o0)))] s.heap.size = A at hD hG ⊢
  have hE := hG.1
  have hA : ∀ q : Nat, s.heap.size ≤ q → A q := fun q h => by rw [← hAe]; exact Or.inr h
  have hS : va_S A s.heap s.heap [] := va_S.rf
  have hl := lv_entry ([.ref x, .ref out]) (n := 3) (Nat.le_of_ble_eq_true rfl)
  rw [lg_entry_eq]
  generalize (lg_sl ([.ref x, .ref out]) ++ List.replicate (3 - (lg_sl ([.ref x, .ref out])).length) Slot.unset).toArray = ls at hl ⊢
  have hl : lv_has ls 3 [(0, .ref x), (1, .ref out)] := hl
  refine lv_aload_n hx hb dL_tweak_0 rfl (lv_at hl 1 rfl) ?_
  refine lv_iconst (v := nI 0) hx hb dL_tweak_1 (by decide) ?_
  refine lv_aload_n hx hb dL_tweak_2 rfl (lv_at hl 0 rfl) ?_
  have hPc := hP.sub (ws' := [(x, .inr (6, [.ref bf, .ref kb, .ref to, .ref ro, .ref fw, .ref sw, .ref na, .ref wo])), (bf, .inr (1, [.ref bc, .int (nI bn)]))]) [0, 1] rfl
  have hDc := hD.sub (ws' := [(x, .inr (6, [.ref bf, .ref kb, .ref to, .ref ro, .ref fw, .ref sw, .ref na, .ref wo])), (bf, .inr (1, [.ref bc, .int (nI bn)]))]) [0, 1] (by decide) rfl
  have hFc := va_free (wc := [(x, .inr (6, [.ref bf, .ref kb, .ref to, .ref ro, .ref fw, .ref sw, .ref na, .ref wo])), (bf, .inr (1, [.ref bc, .int (nI bn)]))]) hD hS hA [0, 1] rfl
  refine vx_calli (vx_runV (As := []) (rest := [.int (nI 0), .ref out]) ⟨hx, hb, hml, hown, hts⟩ (x_X7_tweak_b1 l hl0 dC dI cI tS s.heap.size x bf kb to ro fw sw na wo bc bn (by omega) hbad) (cwV 0 hts gL_tweak_X7_tweak rfl rfl rfl (by decide +kernel) ⟨Nat.le_of_ble_eq_true rfl, Nat.le_of_ble_eq_true rfl⟩) ⟨gPf_blind, va_recv hK hPc (ci := 6) (q0 := 0) rfl rfl, gPf_pre hPc hK hDc (hG.at hS) hFc⟩ rfl rfl hl.1 rfl (lv_room (Nat.le_of_ble_eq_true rfl)) dL_tweak_3 ⟨Nat.le_of_ble_eq_true rfl, Nat.le_of_ble_eq_true rfl⟩) hS (fun q _ h => hFc q h) hFc (fun q _ h => hFc q h) (fun E9 ce9 q9 u8 t8 H1 locs ht hvm hpx hBX hz1 hk1 hS hce hcv hcl => ?_) (fun _ => fun _ _ _ _ _ _ hpost _ _ _ _ => hpost.elim)
  try dsimp only at hBX
  obtain ⟨rfl, hB⟩ := hBX
  obtain ⟨hP, hD⟩ := gB_join (wr := [(out, .inl (cL, 1, .inr (.inl o0)))]) (w2 := [(out, .inl (cL, 1, .inr (.inl o0))), (x, .inr (6, [.ref bf, .ref kb, .ref to, .ref ro, .ref fw, .ref sw, .ref na, .ref wo])), (bf, .inr (1, [.ref bc, .int (nI bn)]))]) hP hD [0, 1] [2] rfl rfl (by decide) (by decide) hk1 hFc ht hB rfl
  clear hk1 hz1 ht hB hvm hPc hDc hFc
  generalize H1 = H at hP hS hce ⊢
  refine vx_catch (own := RL) (name := "java/lang/IllegalArgumentException") (E := "java/lang/IllegalArgumentException") hown [] ⟨0, 8, 11, 13⟩ [] (htab.trans rfl) (fun z hz => nomatch hz) (by decide) (by decide) (hts (.classLink RL 13 "java/lang/IllegalArgumentException") (by decide +kernel)) (hG.2.cast "java/lang/IllegalArgumentException" (by decide +kernel)) hce hcv hcl ?_
  refine W.widen (k := 1) (n := 6) (by omega) (by omega) ?_
  refine lv_astore_n (lv' := [(2, .ref q9), (0, .ref x), (1, .ref out)]) hx hb dL_tweak_11 rfl hl (by decide) rfl (fun ls hl => ?_)
  refine lv_iconst (v := nI 1) hx hb dL_tweak_12 (by decide) ?_
  exact W.iret (v := (nI 1)) hx hb hr (fun t ht hW => ⟨⟨_, (), rfl, rfl, gB2_end ht hW (hP.sub [1, 2, 0] rfl) hK2 (hD.sub [1, 2, 0] (by decide) rfl)⟩, hS.F ht⟩) hS.2.2 dL_tweak_13

set_option maxHeartbeats 4000000 in
set_option maxRecDepth 100000 in
/-- the law calls block: b1 -/
theorem w_L_block_b1 (l : Launch) (hl0 : l.stackTraces = false) (dC : Nat → ClassId) (dI : Nat → Nat → Nat) (cI cL : ClassId) (tS : Nat) (sz : Nat) (x : Nat) (bf : Nat) (kb : Nat) (to : Nat) (ro : Nat) (fw : Nat) (sw : Nat) (na : Nat) (wo : Nat) (bc : Nat) (bn : Nat) (hb : bn ≤ 64) (hbad : bn ≠ 16) : Met l yL_block wsL_block ({ frames := 7, cells := 1, slots := 6, locals := 111 }) (gPw dC dI cI cL tS [.ref x] [(x, .inr (6, [.ref bf, .ref kb, .ref to, .ref ro, .ref fw, .ref sw, .ref na, .ref wo])), (bf, .inr (1, [.ref bc, .int (nI bn)]))] sz) (va_Qi (fun (r7 : Int32) (_u : Unit) => r7 = (nI 1)) (fun _u t => gB2 dC dI cI cL (va_A [(x, .inr (6, [.ref bf, .ref kb, .ref to, .ref ro, .ref fw, .ref sw, .ref na, .ref wo])), (bf, .inr (1, [.ref bc, .int (nI bn)]))] sz) [(x, .inr (6, [.ref bf, .ref kb, .ref to, .ref ro, .ref fw, .ref sw, .ref na, .ref wo])), (bf, .inr (1, [.ref bc, .int (nI bn)]))] t) (va_A [(x, .inr (6, [.ref bf, .ref kb, .ref to, .ref ro, .ref fw, .ref sw, .ref na, .ref wo])), (bf, .inr (1, [.ref bc, .int (nI bn)]))] sz)) 1 6 (va_A [(x, .inr (6, [.ref bf, .ref kb, .ref to, .ref ro, .ref fw, .ref sw, .ref na, .ref wo])), (bf, .inr (1, [.ref bc, .int (nI bn)]))] sz) := by
  refine va_MetW (cc := cL_block) (maxL := 2) (ret := (some .int)) (by decide) rfl ?_
  intro p e s m args below meth c s₁ B9 hml hv
  obtain ⟨rfl, hsz, ⟨hP, hK2, hD0⟩, hG⟩ := hv
  have hK := hK2.sub (tys' := [(cI, .int)]) [0] rfl
  have hx := B9.exec
  have hb := B9.bytes
  have hr := B9.returns
  have hts := atoms_spec (ws := wsL_block) B9.pre
  have htab := vx_table (x := yL_block) B9 (hts _ List.mem_cons_self)
  have hown : s.vm.findClass RL = some m.cls := findClass_of_methodNamed B9.named
  have hlocks := B9.notSynchronized
  subst hsz
  have hD := hD0.self (sz := s.heap.size)
  generalize hAe : va_A [(x, .inr (6, [.ref bf, .ref kb, .ref to, .ref ro, .ref fw, .ref sw, .ref na, .ref wo])), (bf, .inr (1, [.ref bc, .int (nI bn)]))] s.heap.size = A at hD hG ⊢
  have hE := hG.1
  have hA : ∀ q : Nat, s.heap.size ≤ q → A q := fun q h => by rw [← hAe]; exact Or.inr h
  have hS : va_S A s.heap s.heap [] := va_S.rf
  have hl := lv_entry ([.ref x]) (n := 2) (Nat.le_of_ble_eq_true rfl)
  rw [lg_entry_eq]
  generalize (lg_sl ([.ref x]) ++ List.replicate (2 - (lg_sl ([.ref x])).length) Slot.unset).toArray = ls at hl ⊢
  have hl : lv_has ls 2 [(0, .ref x)] := hl
  refine lv_aload_n hx hb dL_block_0 rfl (lv_at hl 0 rfl) ?_
  have hPc := hP.sub (ws' := [(x, .inr (6, [.ref bf, .ref kb, .ref to, .ref ro, .ref fw, .ref sw, .ref na, .ref wo])), (bf, .inr (1, [.ref bc, .int (nI bn)]))]) [0, 1] rfl
  have hDc := hD.sub (ws' := [(x, .inr (6, [.ref bf, .ref kb, .ref to, .ref ro, .ref fw, .ref sw, .ref na, .ref wo])), (bf, .inr (1, [.ref bc, .int (nI bn)]))]) [0, 1] (by decide) rfl
  have hFc := va_free (wc := [(x, .inr (6, [.ref bf, .ref kb, .ref to, .ref ro, .ref fw, .ref sw, .ref na, .ref wo])), (bf, .inr (1, [.ref bc, .int (nI bn)]))]) hD hS hA [0, 1] rfl
  refine vx_callv (vx_runV (As := []) (rest := []) ⟨hx, hb, hml, hown, hts⟩ (x_X7_block_b1 l hl0 dC dI cI tS s.heap.size x bf kb to ro fw sw na wo bc bn (by omega) hbad) (cwV 0 hts gL_block_X7_block rfl rfl rfl (by decide +kernel) ⟨Nat.le_of_ble_eq_true rfl, Nat.le_of_ble_eq_true rfl⟩) ⟨gPf_blind, va_recv hK hPc (ci := 6) (q0 := 0) rfl rfl, gPf_pre hPc hK hDc (hG.at hS) hFc⟩ rfl rfl hl.1 rfl (lv_room (Nat.le_of_ble_eq_true rfl)) dL_block_1 ⟨Nat.le_of_ble_eq_true rfl, Nat.le_of_ble_eq_true rfl⟩) hS (fun q _ h => hFc q h) hFc (fun q _ h => hFc q h) (fun E9 ce9 q9 u8 t8 H1 locs ht hvm hpx hBX hz1 hk1 hS hce hcv hcl => ?_) (fun _ _ _ _ _ _ hpost _ _ _ _ => hpost.elim)
  try dsimp only at hBX
  obtain ⟨rfl, hB⟩ := hBX
  obtain ⟨hP, hD⟩ := gB_join (wr := []) (w2 := [(x, .inr (6, [.ref bf, .ref kb, .ref to, .ref ro, .ref fw, .ref sw, .ref na, .ref wo])), (bf, .inr (1, [.ref bc, .int (nI bn)]))]) hP hD [0, 1] [] rfl rfl (by decide) (by decide) hk1 hFc ht hB rfl
  clear hk1 hz1 ht hB hvm hPc hDc hFc
  generalize H1 = H at hP hS hce ⊢
  refine vx_catch (own := RL) (name := "java/lang/IllegalArgumentException") (E := "java/lang/IllegalArgumentException") hown [] ⟨0, 4, 7, 13⟩ [] (htab.trans rfl) (fun z hz => nomatch hz) (by decide) (by decide) (hts (.classLink RL 13 "java/lang/IllegalArgumentException") (by decide +kernel)) (hG.2.cast "java/lang/IllegalArgumentException" (by decide +kernel)) hce hcv hcl ?_
  refine W.widen (k := 1) (n := 6) (by omega) (by omega) ?_
  refine lv_astore_n (lv' := [(1, .ref q9), (0, .ref x)]) hx hb dL_block_7 rfl hl (by decide) rfl (fun ls hl => ?_)
  refine lv_iconst (v := nI 1) hx hb dL_block_8 (by decide) ?_
  exact W.iret (v := (nI 1)) hx hb hr (fun t ht hW => ⟨⟨_, (), rfl, rfl, gB2_end ht hW hP hK2 hD⟩, hS.F ht⟩) hS.2.2 dL_block_9

set_option maxHeartbeats 4000000 in
set_option maxRecDepth 100000 in
/-- the law calls radix: b1 -/
theorem w_L_radix_b1 (l : Launch) (hl0 : l.stackTraces = false) (dC : Nat → ClassId) (dI : Nat → Nat → Nat) (cI cL : ClassId) (tS : Nat) (sz : Nat) (x : Nat) (bf : Nat) (kb : Nat) (to : Nat) (ro : Nat) (fw : Nat) (sw : Nat) (na : Nat) (wo : Nat) (y : Int32) (out : Nat) (o0 : Nat → Int64) (hbad : y.toInt < 2 ∨ 65536 < y.toInt) : Met l yL_radix wsL_radix ({ frames := 7, cells := 1, slots := 6, locals := 112 }) (gPw dC dI cI cL tS [.ref x, .int y, .ref out] [(x, .inr (6, [.ref bf, .ref kb, .ref to, .ref ro, .ref fw, .ref sw, .ref na, .ref wo])), (out, .inl (cL, 1, .inr (.inl o0)))] sz) (va_Qi (fun (r7 : Int32) (_u : Unit) => r7 = (nI 1)) (fun _u t => gB2 dC dI cI cL (va_A [(x, .inr (6, [.ref bf, .ref kb, .ref to, .ref ro, .ref fw, .ref sw, .ref na, .ref wo])), (out, .inl (cL, 1, .inr (.inl o0)))] sz) [(x, .inr (6, [.ref bf, .ref kb, .ref to, .ref ro, .ref fw, .ref sw, .ref na, .ref wo])), (out, .inl (cL, 1, .inr (.inl o0)))] t) (va_A [(x, .inr (6, [.ref bf, .ref kb, .ref to, .ref ro, .ref fw, .ref sw, .ref na, .ref wo])), (out, .inl (cL, 1, .inr (.inl o0)))] sz)) 1 6 (va_A [(x, .inr (6, [.ref bf, .ref kb, .ref to, .ref ro, .ref fw, .ref sw, .ref na, .ref wo])), (out, .inl (cL, 1, .inr (.inl o0)))] sz) := by
  refine va_MetW (cc := cL_radix) (maxL := 4) (ret := (some .int)) (by decide) rfl ?_
  intro p e s m args below meth c s₁ B9 hml hv
  obtain ⟨rfl, hsz, ⟨hP, hK2, hD0⟩, hG⟩ := hv
  have hK := hK2.sub (tys' := [(cI, .int)]) [0] rfl
  have hx := B9.exec
  have hb := B9.bytes
  have hr := B9.returns
  have hts := atoms_spec (ws := wsL_radix) B9.pre
  have htab := vx_table (x := yL_radix) B9 (hts _ List.mem_cons_self)
  have hown : s.vm.findClass RL = some m.cls := findClass_of_methodNamed B9.named
  have hlocks := B9.notSynchronized
  subst hsz
  have hD := hD0.self (sz := s.heap.size)
  generalize hAe : va_A [(x, .inr (6, [.ref bf, .ref kb, .ref to, .ref ro, .ref fw, .ref sw, .ref na, .ref wo])), (out, .inl (cL, 1, .inr (.inl o0)))] s.heap.size = A at hD hG ⊢
  have hE := hG.1
  have hA : ∀ q : Nat, s.heap.size ≤ q → A q := fun q h => by rw [← hAe]; exact Or.inr h
  have hS : va_S A s.heap s.heap [] := va_S.rf
  have hl := lv_entry ([.ref x, .int y, .ref out]) (n := 4) (Nat.le_of_ble_eq_true rfl)
  rw [lg_entry_eq]
  generalize (lg_sl ([.ref x, .int y, .ref out]) ++ List.replicate (4 - (lg_sl ([.ref x, .int y, .ref out])).length) Slot.unset).toArray = ls at hl ⊢
  have hl : lv_has ls 4 [(0, .ref x), (1, .int y), (2, .ref out)] := hl
  refine lv_aload_n hx hb dL_radix_0 rfl (lv_at hl 2 rfl) ?_
  refine lv_iconst (v := nI 0) hx hb dL_radix_1 (by decide) ?_
  refine lv_aload_n hx hb dL_radix_2 rfl (lv_at hl 0 rfl) ?_
  refine lv_iload_n hx hb dL_radix_3 rfl (lv_at hl 1 rfl) ?_
  have hPc := hP.sub (ws' := [(x, .inr (6, [.ref bf, .ref kb, .ref to, .ref ro, .ref fw, .ref sw, .ref na, .ref wo]))]) [0] rfl
  have hDc := hD.sub (ws' := [(x, .inr (6, [.ref bf, .ref kb, .ref to, .ref ro, .ref fw, .ref sw, .ref na, .ref wo]))]) [0] (by decide) rfl
  have hFc := va_free (wc := [(x, .inr (6, [.ref bf, .ref kb, .ref to, .ref ro, .ref fw, .ref sw, .ref na, .ref wo]))]) hD hS hA [0] rfl
  refine vx_calli (vx_runV (As := [.int y]) (rest := [.int (nI 0), .ref out]) ⟨hx, hb, hml, hown, hts⟩ (x_X7_radix_b1 l hl0 dC dI cI tS s.heap.size x bf kb to ro fw sw na wo y hbad) (cwV 1 hts gL_radix_X7_radix rfl rfl rfl (by decide +kernel) ⟨Nat.le_of_ble_eq_true rfl, Nat.le_of_ble_eq_true rfl⟩) ⟨gPf_blind, va_recv hK hPc (ci := 6) (q0 := 0) rfl rfl, gPf_pre hPc hK hDc (hG.at hS) hFc⟩ rfl rfl hl.1 rfl (lv_room (Nat.le_of_ble_eq_true rfl)) dL_radix_4 ⟨Nat.le_of_ble_eq_true rfl, Nat.le_of_ble_eq_true rfl⟩) hS (fun q _ h => hFc q h) hFc (fun q _ h => hFc q h) (fun E9 ce9 q9 u8 t8 H1 locs ht hvm hpx hBX hz1 hk1 hS hce hcv hcl => ?_) (fun _ => fun _ _ _ _ _ _ hpost _ _ _ _ => hpost.elim)
  try dsimp only at hBX
  obtain ⟨rfl, hB⟩ := hBX
  obtain ⟨hP, hD⟩ := gB_join (wr := [(out, .inl (cL, 1, .inr (.inl o0)))]) (w2 := [(out, .inl (cL, 1, .inr (.inl o0))), (x, .inr (6, [.ref bf, .ref kb, .ref to, .ref ro, .ref fw, .ref sw, .ref na, .ref wo]))]) hP hD [0] [1] rfl rfl (by decide) (by decide) hk1 hFc ht hB rfl
  clear hk1 hz1 ht hB hvm hPc hDc hFc
  generalize H1 = H at hP hS hce ⊢
  refine vx_catch (own := RL) (name := "java/lang/IllegalArgumentException") (E := "java/lang/IllegalArgumentException") hown [] ⟨0, 9, 12, 13⟩ [] (htab.trans rfl) (fun z hz => nomatch hz) (by decide) (by decide) (hts (.classLink RL 13 "java/lang/IllegalArgumentException") (by decide +kernel)) (hG.2.cast "java/lang/IllegalArgumentException" (by decide +kernel)) hce hcv hcl ?_
  refine W.widen (k := 1) (n := 6) (by omega) (by omega) ?_
  refine lv_astore_n (lv' := [(3, .ref q9), (0, .ref x), (1, .int y), (2, .ref out)]) hx hb dL_radix_12 rfl hl (by decide) rfl (fun ls hl => ?_)
  refine lv_iconst (v := nI 1) hx hb dL_radix_13 (by decide) ?_
  exact W.iret (v := (nI 1)) hx hb hr (fun t ht hW => ⟨⟨_, (), rfl, rfl, gB2_end ht hW (hP.sub [1, 0] rfl) hK2 (hD.sub [1, 0] (by decide) rfl)⟩, hS.F ht⟩) hS.2.2 dL_radix_14

set_option maxHeartbeats 4000000 in
set_option maxRecDepth 100000 in
/-- the law calls numeral: b1 -/
theorem w_L_numeral_b1 (l : Launch) (hl0 : l.stackTraces = false) (dC : Nat → ClassId) (dI : Nat → Nat → Nat) (cI cL : ClassId) (tS : Nat) (sz : Nat) (x : Nat) (bf : Nat) (kb : Nat) (to : Nat) (ro : Nat) (fw : Nat) (sw : Nat) (na : Nat) (wo : Nat) (rc : Nat) (n : Nat) (bs : Nat) (y : Int32) (out : Nat) (o0 : Nat → Int64) (hb2 : bs ≤ 65536) (hbad : y.toInt < 0 ∨ (bs : Int) ≤ y.toInt) : Met l yL_numeral wsL_numeral ({ frames := 7, cells := 1, slots := 6, locals := 111 }) (gPw dC dI cI cL tS [.ref x, .int y, .ref out] [(x, .inr (6, [.ref bf, .ref kb, .ref to, .ref ro, .ref fw, .ref sw, .ref na, .ref wo])), (ro, .inr (4, [.ref rc, .int (nI n), .int (nI bs)])), (out, .inl (cL, 1, .inr (.inl o0)))] sz) (va_Qi (fun (r7 : Int32) (_u : Unit) => r7 = (nI 1)) (fun _u t => gB2 dC dI cI cL (va_A [(x, .inr (6, [.ref bf, .ref kb, .ref to, .ref ro, .ref fw, .ref sw, .ref na, .ref wo])), (ro, .inr (4, [.ref rc, .int (nI n), .int (nI bs)])), (out, .inl (cL, 1, .inr (.inl o0)))] sz) [(x, .inr (6, [.ref bf, .ref kb, .ref to, .ref ro, .ref fw, .ref sw, .ref na, .ref wo])), (ro, .inr (4, [.ref rc, .int (nI n), .int (nI bs)])), (out, .inl (cL, 1, .inr (.inl o0)))] t) (va_A [(x, .inr (6, [.ref bf, .ref kb, .ref to, .ref ro, .ref fw, .ref sw, .ref na, .ref wo])), (ro, .inr (4, [.ref rc, .int (nI n), .int (nI bs)])), (out, .inl (cL, 1, .inr (.inl o0)))] sz)) 1 6 (va_A [(x, .inr (6, [.ref bf, .ref kb, .ref to, .ref ro, .ref fw, .ref sw, .ref na, .ref wo])), (ro, .inr (4, [.ref rc, .int (nI n), .int (nI bs)])), (out, .inl (cL, 1, .inr (.inl o0)))] sz) := by
  refine va_MetW (cc := cL_numeral) (maxL := 4) (ret := (some .int)) (by decide) rfl ?_
  intro p e s m args below meth c s₁ B9 hml hv
  obtain ⟨rfl, hsz, ⟨hP, hK2, hD0⟩, hG⟩ := hv
  have hK := hK2.sub (tys' := [(cI, .int)]) [0] rfl
  have hx := B9.exec
  have hb := B9.bytes
  have hr := B9.returns
  have hts := atoms_spec (ws := wsL_numeral) B9.pre
  have htab := vx_table (x := yL_numeral) B9 (hts _ List.mem_cons_self)
  have hown : s.vm.findClass RL = some m.cls := findClass_of_methodNamed B9.named
  have hlocks := B9.notSynchronized
  subst hsz
  have hD := hD0.self (sz := s.heap.size)
  generalize hAe : va_A [(x, .inr (6, [.ref bf, .ref kb, .ref to, .ref ro, .ref fw, .ref sw, .ref na, .ref wo])), (ro, .inr (4, [.ref rc, .int (nI n), .int (nI bs)])), (out, .inl (cL, 1, .inr (.inl o0)))] s.heap.size = A at hD hG ⊢
  have hE := hG.1
  have hA : ∀ q : Nat, s.heap.size ≤ q → A q := fun q h => by rw [← hAe]; exact Or.inr h
  have hS : va_S A s.heap s.heap [] := va_S.rf
  have hl := lv_entry ([.ref x, .int y, .ref out]) (n := 4) (Nat.le_of_ble_eq_true rfl)
  rw [lg_entry_eq]
  generalize (lg_sl ([.ref x, .int y, .ref out]) ++ List.replicate (4 - (lg_sl ([.ref x, .int y, .ref out])).length) Slot.unset).toArray = ls at hl ⊢
  have hl : lv_has ls 4 [(0, .ref x), (1, .int y), (2, .ref out)] := hl
  refine lv_aload_n hx hb dL_numeral_0 rfl (lv_at hl 2 rfl) ?_
  refine lv_iconst (v := nI 0) hx hb dL_numeral_1 (by decide) ?_
  refine lv_aload_n hx hb dL_numeral_2 rfl (lv_at hl 0 rfl) ?_
  refine lv_iload_n hx hb dL_numeral_3 rfl (lv_at hl 1 rfl) ?_
  have hPc := hP.sub (ws' := [(x, .inr (6, [.ref bf, .ref kb, .ref to, .ref ro, .ref fw, .ref sw, .ref na, .ref wo])), (ro, .inr (4, [.ref rc, .int (nI n), .int (nI bs)]))]) [0, 1] rfl
  have hDc := hD.sub (ws' := [(x, .inr (6, [.ref bf, .ref kb, .ref to, .ref ro, .ref fw, .ref sw, .ref na, .ref wo])), (ro, .inr (4, [.ref rc, .int (nI n), .int (nI bs)]))]) [0, 1] (by decide) rfl
  have hFc := va_free (wc := [(x, .inr (6, [.ref bf, .ref kb, .ref to, .ref ro, .ref fw, .ref sw, .ref na, .ref wo])), (ro, .inr (4, [.ref rc, .int (nI n), .int (nI bs)]))]) hD hS hA [0, 1] rfl
  refine vx_calli (vx_runV (As := [.int y]) (rest := [.int (nI 0), .ref out]) ⟨hx, hb, hml, hown, hts⟩ (x_X7_numeral_b1 l hl0 dC dI cI tS s.heap.size x bf kb to ro fw sw na wo rc n bs y hb2 hbad) (cwV 1 hts gL_numeral_X7_numeral rfl rfl rfl (by decide +kernel) ⟨Nat.le_of_ble_eq_true rfl, Nat.le_of_ble_eq_true rfl⟩) ⟨gPf_blind, va_recv hK hPc (ci := 6) (q0 := 0) rfl rfl, gPf_pre hPc hK hDc (hG.at hS) hFc⟩ rfl rfl hl.1 rfl (lv_room (Nat.le_of_ble_eq_true rfl)) dL_numeral_4 ⟨Nat.le_of_ble_eq_true rfl, Nat.le_of_ble_eq_true rfl⟩) hS (fun q _ h => hFc q h) hFc (fun q _ h => hFc q h) (fun E9 ce9 q9 u8 t8 H1 locs ht hvm hpx hBX hz1 hk1 hS hce hcv hcl => ?_) (fun _ => fun _ _ _ _ _ _ hpost _ _ _ _ => hpost.elim)
  try dsimp only at hBX
  obtain ⟨rfl, hB⟩ := hBX
  obtain ⟨hP, hD⟩ := gB_join (wr := [(out, .inl (cL, 1, .inr (.inl o0)))]) (w2 := [(out, .inl (cL, 1, .inr (.inl o0))), (x, .inr (6, [.ref bf, .ref kb, .ref to, .ref ro, .ref fw, .ref sw, .ref na, .ref wo])), (ro, .inr (4, [.ref rc, .int (nI n), .int (nI bs)]))]) hP hD [0, 1] [2] rfl rfl (by decide) (by decide) hk1 hFc ht hB rfl
  clear hk1 hz1 ht hB hvm hPc hDc hFc
  generalize H1 = H at hP hS hce ⊢
  refine vx_catch (own := RL) (name := "java/lang/IllegalArgumentException") (E := "java/lang/IllegalArgumentException") hown [] ⟨0, 9, 12, 13⟩ [⟨0, 9, 15, 15⟩] (htab.trans rfl) (fun z hz => nomatch hz) (by decide) (by decide) (hts (.classLink RL 13 "java/lang/IllegalArgumentException") (by decide +kernel)) (hG.2.cast "java/lang/IllegalArgumentException" (by decide +kernel)) hce hcv hcl ?_
  refine W.widen (k := 1) (n := 6) (by omega) (by omega) ?_
  refine lv_astore_n (lv' := [(3, .ref q9), (0, .ref x), (1, .int y), (2, .ref out)]) hx hb dL_numeral_12 rfl hl (by decide) rfl (fun ls hl => ?_)
  refine lv_iconst (v := nI 1) hx hb dL_numeral_13 (by decide) ?_
  exact W.iret (v := (nI 1)) hx hb hr (fun t ht hW => ⟨⟨_, (), rfl, rfl, gB2_end ht hW (hP.sub [1, 2, 0] rfl) hK2 (hD.sub [1, 2, 0] (by decide) rfl)⟩, hS.F ht⟩) hS.2.2 dL_numeral_14

set_option maxHeartbeats 4000000 in
set_option maxRecDepth 100000 in
/-- the law calls numeral: b2 -/
theorem w_L_numeral_b2 (l : Launch) (hl0 : l.stackTraces = false) (dC : Nat → ClassId) (dI : Nat → Nat → Nat) (cI cL : ClassId) (tS : Nat) (sz : Nat) (x : Nat) (bf : Nat) (kb : Nat) (to : Nat) (ro : Nat) (fw : Nat) (sw : Nat) (na : Nat) (wo : Nat) (rc : Nat) (n : Nat) (bs : Nat) (v : Nat) (out : Nat) (o0 : Nat → Int64) (hv : v < bs) (hb2 : bs ≤ 65536) (hn : n = 64) : Met l yL_numeral wsL_numeral ({ frames := 7, cells := 1, slots := 6, locals := 111 }) (gPw dC dI cI cL tS [.ref x, .int (nI v), .ref out] [(x, .inr (6, [.ref bf, .ref kb, .ref to, .ref ro, .ref fw, .ref sw, .ref na, .ref wo])), (ro, .inr (4, [.ref rc, .int (nI n), .int (nI bs)])), (out, .inl (cL, 1, .inr (.inl o0)))] sz) (va_Qi (fun (r7 : Int32) (_u : Unit) => r7 = (nI 2)) (fun _u t => gB2 dC dI cI cL (va_A [(x, .inr (6, [.ref bf, .ref kb, .ref to, .ref ro, .ref fw, .ref sw, .ref na, .ref wo])), (ro, .inr (4, [.ref rc, .int (nI n), .int (nI bs)])), (out, .inl (cL, 1, .inr (.inl o0)))] sz) [(x, .inr (6, [.ref bf, .ref kb, .ref to, .ref ro, .ref fw, .ref sw, .ref na, .ref wo])), (ro, .inr (4, [.ref rc, .int (nI n), .int (nI bs)])), (out, .inl (cL, 1, .inr (.inl o0)))] t) (va_A [(x, .inr (6, [.ref bf, .ref kb, .ref to, .ref ro, .ref fw, .ref sw, .ref na, .ref wo])), (ro, .inr (4, [.ref rc, .int (nI n), .int (nI bs)])), (out, .inl (cL, 1, .inr (.inl o0)))] sz)) 1 6 (va_A [(x, .inr (6, [.ref bf, .ref kb, .ref to, .ref ro, .ref fw, .ref sw, .ref na, .ref wo])), (ro, .inr (4, [.ref rc, .int (nI n), .int (nI bs)])), (out, .inl (cL, 1, .inr (.inl o0)))] sz) := by
  refine va_MetW (cc := cL_numeral) (maxL := 4) (ret := (some .int)) (by decide) rfl ?_
  intro p e s m args below meth c s₁ B9 hml hv
  obtain ⟨rfl, hsz, ⟨hP, hK2, hD0⟩, hG⟩ := hv
  have hK := hK2.sub (tys' := [(cI, .int)]) [0] rfl
  have hx := B9.exec
  have hb := B9.bytes
  have hr := B9.returns
  have hts := atoms_spec (ws := wsL_numeral) B9.pre
  have htab := vx_table (x := yL_numeral) B9 (hts _ List.mem_cons_self)
  have hown : s.vm.findClass RL = some m.cls := findClass_of_methodNamed B9.named
  have hlocks := B9.notSynchronized
  subst hsz
  have hD := hD0.self (sz := s.heap.size)
  generalize hAe : va_A [(x, .inr (6, [.ref bf, .ref kb, .ref to, .ref ro, .ref fw, .ref sw, .ref na, .ref wo])), (ro, .inr (4, [.ref rc, .int (nI n), .int (nI bs)])), (out, .inl (cL, 1, .inr (.inl o0)))] s.heap.size = A at hD hG ⊢
  have hE := hG.1
  have hA : ∀ q : Nat, s.heap.size ≤ q → A q := fun q h => by rw [← hAe]; exact Or.inr h
  have hS : va_S A s.heap s.heap [] := va_S.rf
  have hl := lv_entry ([.ref x, .int (nI v), .ref out]) (n := 4) (Nat.le_of_ble_eq_true rfl)
  rw [lg_entry_eq]
  generalize (lg_sl ([.ref x, .int (nI v), .ref out]) ++ List.replicate (4 - (lg_sl ([.ref x, .int (nI v), .ref out])).length) Slot.unset).toArray = ls at hl ⊢
  have hl : lv_has ls 4 [(0, .ref x), (1, .int (nI v)), (2, .ref out)] := hl
  refine lv_aload_n hx hb dL_numeral_0 rfl (lv_at hl 2 rfl) ?_
  refine lv_iconst (v := nI 0) hx hb dL_numeral_1 (by decide) ?_
  refine lv_aload_n hx hb dL_numeral_2 rfl (lv_at hl 0 rfl) ?_
  refine lv_iload_n hx hb dL_numeral_3 rfl (lv_at hl 1 rfl) ?_
  have hPc := hP.sub (ws' := [(x, .inr (6, [.ref bf, .ref kb, .ref to, .ref ro, .ref fw, .ref sw, .ref na, .ref wo])), (ro, .inr (4, [.ref rc, .int (nI n), .int (nI bs)]))]) [0, 1] rfl
  have hDc := hD.sub (ws' := [(x, .inr (6, [.ref bf, .ref kb, .ref to, .ref ro, .ref fw, .ref sw, .ref na, .ref wo])), (ro, .inr (4, [.ref rc, .int (nI n), .int (nI bs)]))]) [0, 1] (by decide) rfl
  have hFc := va_free (wc := [(x, .inr (6, [.ref bf, .ref kb, .ref to, .ref ro, .ref fw, .ref sw, .ref na, .ref wo])), (ro, .inr (4, [.ref rc, .int (nI n), .int (nI bs)]))]) hD hS hA [0, 1] rfl
  refine vx_calli (vx_runV (As := [.int (nI v)]) (rest := [.int (nI 0), .ref out]) ⟨hx, hb, hml, hown, hts⟩ (x_X7_numeral_b2 l hl0 dC dI cI tS s.heap.size x bf kb to ro fw sw na wo rc n bs v hv hb2 hn) (cwV 1 hts gL_numeral_X7_numeral rfl rfl rfl (by decide +kernel) ⟨Nat.le_of_ble_eq_true rfl, Nat.le_of_ble_eq_true rfl⟩) ⟨gPf_blind, va_recv hK hPc (ci := 6) (q0 := 0) rfl rfl, gPf_pre hPc hK hDc (hG.at hS) hFc⟩ rfl rfl hl.1 rfl (lv_room (Nat.le_of_ble_eq_true rfl)) dL_numeral_4 ⟨Nat.le_of_ble_eq_true rfl, Nat.le_of_ble_eq_true rfl⟩) hS (fun q _ h => hFc q h) hFc (fun q _ h => hFc q h) (fun E9 ce9 q9 u8 t8 H1 locs ht hvm hpx hBX hz1 hk1 hS hce hcv hcl => ?_) (fun _ => fun _ _ _ _ _ _ hpost _ _ _ _ => hpost.elim)
  try dsimp only at hBX
  obtain ⟨rfl, hB⟩ := hBX
  obtain ⟨hP, hD⟩ := gB_join (wr := [(out, .inl (cL, 1, .inr (.inl o0)))]) (w2 := [(out, .inl (cL, 1, .inr (.inl o0))), (x, .inr (6, [.ref bf, .ref kb, .ref to, .ref ro, .ref fw, .ref sw, .ref na, .ref wo])), (ro, .inr (4, [.ref rc, .int (nI n), .int (nI bs)]))]) hP hD [0, 1] [2] rfl rfl (by decide) (by decide) hk1 hFc ht hB rfl
  clear hk1 hz1 ht hB hvm hPc hDc hFc
  generalize H1 = H at hP hS hce ⊢
  refine vx_catch (own := RL) (name := "java/lang/UnsupportedOperationException") (E := "java/lang/UnsupportedOperationException") hown [⟨0, 9, 12, 13⟩] ⟨0, 9, 15, 15⟩ [] (htab.trans rfl) (fun z hz => by cases List.mem_singleton.mp hz; exact Or.inr ⟨by decide, "java/lang/IllegalArgumentException", hts (.classLink RL 13 "java/lang/IllegalArgumentException") (by decide +kernel), hG.2.2.2.2.2.1⟩) (by decide) (by decide) (hts (.classLink RL 15 "java/lang/UnsupportedOperationException") (by decide +kernel)) (hG.2.cast "java/lang/UnsupportedOperationException" (by decide +kernel)) hce hcv hcl ?_
  refine W.widen (k := 1) (n := 6) (by omega) (by omega) ?_
  refine lv_astore_n (lv' := [(3, .ref q9), (0, .ref x), (1, .int (nI v)), (2, .ref out)]) hx hb dL_numeral_15 rfl hl (by decide) rfl (fun ls hl => ?_)
  refine lv_iconst (v := nI 2) hx hb dL_numeral_16 (by decide) ?_
  exact W.iret (v := (nI 2)) hx hb hr (fun t ht hW => ⟨⟨_, (), rfl, rfl, gB2_end ht hW (hP.sub [1, 2, 0] rfl) hK2 (hD.sub [1, 2, 0] (by decide) rfl)⟩, hS.F ht⟩) hS.2.2 dL_numeral_17

set_option maxHeartbeats 4000000 in
set_option maxRecDepth 100000 in
/-- the law calls cut: b1 -/
theorem w_L_cut_b1 (l : Launch) (hl0 : l.stackTraces = false) (dC : Nat → ClassId) (dI : Nat → Nat → Nat) (cI cL : ClassId) (tS : Nat) (sz : Nat) (x : Nat) (bf : Nat) (kb : Nat) (to : Nat) (ro : Nat) (fw : Nat) (sw : Nat) (na : Nat) (wo : Nat) (rc : Nat) (n : Nat) (bs : Nat) (y : Int32) (hn : n ≤ 64) (hbad : y.toInt < 0 ∨ (n : Int) < y.toInt) : Met l yL_cut wsL_cut ({ frames := 7, cells := 1, slots := 6, locals := 111 }) (gPw dC dI cI cL tS [.ref x, .int y] [(x, .inr (6, [.ref bf, .ref kb, .ref to, .ref ro, .ref fw, .ref sw, .ref na, .ref wo])), (ro, .inr (4, [.ref rc, .int (nI n), .int (nI bs)]))] sz) (va_Qi (fun (r7 : Int32) (_u : Unit) => r7 = (nI 1)) (fun _u t => gB2 dC dI cI cL (va_A [(x, .inr (6, [.ref bf, .ref kb, .ref to, .ref ro, .ref fw, .ref sw, .ref na, .ref wo])), (ro, .inr (4, [.ref rc, .int (nI n), .int (nI bs)]))] sz) [(x, .inr (6, [.ref bf, .ref kb, .ref to, .ref ro, .ref fw, .ref sw, .ref na, .ref wo])), (ro, .inr (4, [.ref rc, .int (nI n), .int (nI bs)]))] t) (va_A [(x, .inr (6, [.ref bf, .ref kb, .ref to, .ref ro, .ref fw, .ref sw, .ref na, .ref wo])), (ro, .inr (4, [.ref rc, .int (nI n), .int (nI bs)]))] sz)) 1 6 (va_A [(x, .inr (6, [.ref bf, .ref kb, .ref to, .ref ro, .ref fw, .ref sw, .ref na, .ref wo])), (ro, .inr (4, [.ref rc, .int (nI n), .int (nI bs)]))] sz) := by
  refine va_MetW (cc := cL_cut) (maxL := 3) (ret := (some .int)) (by decide) rfl ?_
  intro p e s m args below meth c s₁ B9 hml hv
  obtain ⟨rfl, hsz, ⟨hP, hK2, hD0⟩, hG⟩ := hv
  have hK := hK2.sub (tys' := [(cI, .int)]) [0] rfl
  have hx := B9.exec
  have hb := B9.bytes
  have hr := B9.returns
  have hts := atoms_spec (ws := wsL_cut) B9.pre
  have htab := vx_table (x := yL_cut) B9 (hts _ List.mem_cons_self)
  have hown : s.vm.findClass RL = some m.cls := findClass_of_methodNamed B9.named
  have hlocks := B9.notSynchronized
  subst hsz
  have hD := hD0.self (sz := s.heap.size)
  generalize hAe : va_A [(x, .inr (6, [.ref bf, .ref kb, .ref to, .ref ro, .ref fw, .ref sw, .ref na, .ref wo])), (ro, .inr (4, [.ref rc, .int (nI n), .int (nI bs)]))] s.heap.size = A at hD hG ⊢
  have hE := hG.1
  have hA : ∀ q : Nat, s.heap.size ≤ q → A q := fun q h => by rw [← hAe]; exact Or.inr h
  have hS : va_S A s.heap s.heap [] := va_S.rf
  have hl := lv_entry ([.ref x, .int y]) (n := 3) (Nat.le_of_ble_eq_true rfl)
  rw [lg_entry_eq]
  generalize (lg_sl ([.ref x, .int y]) ++ List.replicate (3 - (lg_sl ([.ref x, .int y])).length) Slot.unset).toArray = ls at hl ⊢
  have hl : lv_has ls 3 [(0, .ref x), (1, .int y)] := hl
  refine lv_aload_n hx hb dL_cut_0 rfl (lv_at hl 0 rfl) ?_
  refine lv_iload_n hx hb dL_cut_1 rfl (lv_at hl 1 rfl) ?_
  have hPc := hP.sub (ws' := [(x, .inr (6, [.ref bf, .ref kb, .ref to, .ref ro, .ref fw, .ref sw, .ref na, .ref wo])), (ro, .inr (4, [.ref rc, .int (nI n), .int (nI bs)]))]) [0, 1] rfl
  have hDc := hD.sub (ws' := [(x, .inr (6, [.ref bf, .ref kb, .ref to, .ref ro, .ref fw, .ref sw, .ref na, .ref wo])), (ro, .inr (4, [.ref rc, .int (nI n), .int (nI bs)]))]) [0, 1] (by decide) rfl
  have hFc := va_free (wc := [(x, .inr (6, [.ref bf, .ref kb, .ref to, .ref ro, .ref fw, .ref sw, .ref na, .ref wo])), (ro, .inr (4, [.ref rc, .int (nI n), .int (nI bs)]))]) hD hS hA [0, 1] rfl
  refine vx_callv (vx_runV (As := [.int y]) (rest := []) ⟨hx, hb, hml, hown, hts⟩ (x_X7_cut_b1 l hl0 dC dI cI tS s.heap.size x bf kb to ro fw sw na wo rc n bs y hn hbad) (cwV 1 hts gL_cut_X7_cut rfl rfl rfl (by decide +kernel) ⟨Nat.le_of_ble_eq_true rfl, Nat.le_of_ble_eq_true rfl⟩) ⟨gPf_blind, va_recv hK hPc (ci := 6) (q0 := 0) rfl rfl, gPf_pre hPc hK hDc (hG.at hS) hFc⟩ rfl rfl hl.1 rfl (lv_room (Nat.le_of_ble_eq_true rfl)) dL_cut_2 ⟨Nat.le_of_ble_eq_true rfl, Nat.le_of_ble_eq_true rfl⟩) hS (fun q _ h => hFc q h) hFc (fun q _ h => hFc q h) (fun E9 ce9 q9 u8 t8 H1 locs ht hvm hpx hBX hz1 hk1 hS hce hcv hcl => ?_) (fun _ _ _ _ _ _ hpost _ _ _ _ => hpost.elim)
  try dsimp only at hBX
  obtain ⟨rfl, hB⟩ := hBX
  obtain ⟨hP, hD⟩ := gB_join (wr := []) (w2 := [(x, .inr (6, [.ref bf, .ref kb, .ref to, .ref ro, .ref fw, .ref sw, .ref na, .ref wo])), (ro, .inr (4, [.ref rc, .int (nI n), .int (nI bs)]))]) hP hD [0, 1] [] rfl rfl (by decide) (by decide) hk1 hFc ht hB rfl
  clear hk1 hz1 ht hB hvm hPc hDc hFc
  generalize H1 = H at hP hS hce ⊢
  refine vx_catch (own := RL) (name := "java/lang/IllegalArgumentException") (E := "java/lang/IllegalArgumentException") hown [] ⟨0, 5, 8, 13⟩ [] (htab.trans rfl) (fun z hz => nomatch hz) (by decide) (by decide) (hts (.classLink RL 13 "java/lang/IllegalArgumentException") (by decide +kernel)) (hG.2.cast "java/lang/IllegalArgumentException" (by decide +kernel)) hce hcv hcl ?_
  refine W.widen (k := 1) (n := 6) (by omega) (by omega) ?_
  refine lv_astore_n (lv' := [(2, .ref q9), (0, .ref x), (1, .int y)]) hx hb dL_cut_8 rfl hl (by decide) rfl (fun ls hl => ?_)
  refine lv_iconst (v := nI 1) hx hb dL_cut_9 (by decide) ?_
  exact W.iret (v := (nI 1)) hx hb hr (fun t ht hW => ⟨⟨_, (), rfl, rfl, gB2_end ht hW hP hK2 hD⟩, hS.F ht⟩) hS.2.2 dL_cut_10

set_option maxHeartbeats 4000000 in
set_option maxRecDepth 100000 in
/-- the law calls set: b1 -/
theorem w_L_set_b1 (l : Launch) (hl0 : l.stackTraces = false) (dC : Nat → ClassId) (dI : Nat → Nat → Nat) (cI cL : ClassId) (tS : Nat) (sz : Nat) (x : Nat) (bf : Nat) (kb : Nat) (to : Nat) (ro : Nat) (fw : Nat) (sw : Nat) (na : Nat) (wo : Nat) (rc : Nat) (n : Nat) (bs : Nat) (y : Int32) (y2 : Int32) (out : Nat) (o0 : Nat → Int64) (hn : n ≤ 64) (hbad : y.toInt < 0 ∨ (n : Int) ≤ y.toInt) : Met l yL_set wsL_set ({ frames := 7, cells := 1, slots := 6, locals := 113 }) (gPw dC dI cI cL tS [.ref x, .int y, .int y2, .ref out] [(x, .inr (6, [.ref bf, .ref kb, .ref to, .ref ro, .ref fw, .ref sw, .ref na, .ref wo])), (ro, .inr (4, [.ref rc, .int (nI n), .int (nI bs)])), (out, .inl (cL, 1, .inr (.inl o0)))] sz) (va_Qi (fun (r7 : Int32) (_u : Unit) => r7 = (nI 1)) (fun _u t => gB2 dC dI cI cL (va_A [(x, .inr (6, [.ref bf, .ref kb, .ref to, .ref ro, .ref fw, .ref sw, .ref na, .ref wo])), (ro, .inr (4, [.ref rc, .int (nI n), .int (nI bs)])), (out, .inl (cL, 1, .inr (.inl o0)))] sz) [(x, .inr (6, [.ref bf, .ref kb, .ref to, .ref ro, .ref fw, .ref sw, .ref na, .ref wo])), (ro, .inr (4, [.ref rc, .int (nI n), .int (nI bs)])), (out, .inl (cL, 1, .inr (.inl o0)))] t) (va_A [(x, .inr (6, [.ref bf, .ref kb, .ref to, .ref ro, .ref fw, .ref sw, .ref na, .ref wo])), (ro, .inr (4, [.ref rc, .int (nI n), .int (nI bs)])), (out, .inl (cL, 1, .inr (.inl o0)))] sz)) 1 6 (va_A [(x, .inr (6, [.ref bf, .ref kb, .ref to, .ref ro, .ref fw, .ref sw, .ref na, .ref wo])), (ro, .inr (4, [.ref rc, .int (nI n), .int (nI bs)])), (out, .inl (cL, 1, .inr (.inl o0)))] sz) := by
  refine va_MetW (cc := cL_set) (maxL := 5) (ret := (some .int)) (by decide) rfl ?_
  intro p e s m args below meth c s₁ B9 hml hv
  obtain ⟨rfl, hsz, ⟨hP, hK2, hD0⟩, hG⟩ := hv
  have hK := hK2.sub (tys' := [(cI, .int)]) [0] rfl
  have hx := B9.exec
  have hb := B9.bytes
  have hr := B9.returns
  have hts := atoms_spec (ws := wsL_set) B9.pre
  have htab := vx_table (x := yL_set) B9 (hts _ List.mem_cons_self)
  have hown : s.vm.findClass RL = some m.cls := findClass_of_methodNamed B9.named
  have hlocks := B9.notSynchronized
  subst hsz
  have hD := hD0.self (sz := s.heap.size)
  generalize hAe : va_A [(x, .inr (6, [.ref bf, .ref kb, .ref to, .ref ro, .ref fw, .ref sw, .ref na, .ref wo])), (ro, .inr (4, [.ref rc, .int (nI n), .int (nI bs)])), (out, .inl (cL, 1, .inr (.inl o0)))] s.heap.size = A at hD hG ⊢
  have hE := hG.1
  have hA : ∀ q : Nat, s.heap.size ≤ q → A q := fun q h => by rw [← hAe]; exact Or.inr h
  have hS : va_S A s.heap s.heap [] := va_S.rf
  have hl := lv_entry ([.ref x, .int y, .int y2, .ref out]) (n := 5) (Nat.le_of_ble_eq_true rfl)
  rw [lg_entry_eq]
  generalize (lg_sl ([.ref x, .int y, .int y2, .ref out]) ++ List.replicate (5 - (lg_sl ([.ref x, .int y, .int y2, .ref out])).length) Slot.unset).toArray = ls at hl ⊢
  have hl : lv_has ls 5 [(0, .ref x), (1, .int y), (2, .int y2), (3, .ref out)] := hl
  refine lv_aload_n hx hb dL_set_0 rfl (lv_at hl 3 rfl) ?_
  refine lv_iconst (v := nI 0) hx hb dL_set_1 (by decide) ?_
  refine lv_aload_n hx hb dL_set_2 rfl (lv_at hl 0 rfl) ?_
  refine lv_iload_n hx hb dL_set_3 rfl (lv_at hl 1 rfl) ?_
  refine lv_iload_n hx hb dL_set_4 rfl (lv_at hl 2 rfl) ?_
  have hPc := hP.sub (ws' := [(x, .inr (6, [.ref bf, .ref kb, .ref to, .ref ro, .ref fw, .ref sw, .ref na, .ref wo])), (ro, .inr (4, [.ref rc, .int (nI n), .int (nI bs)]))]) [0, 1] rfl
  have hDc := hD.sub (ws' := [(x, .inr (6, [.ref bf, .ref kb, .ref to, .ref ro, .ref fw, .ref sw, .ref na, .ref wo])), (ro, .inr (4, [.ref rc, .int (nI n), .int (nI bs)]))]) [0, 1] (by decide) rfl
  have hFc := va_free (wc := [(x, .inr (6, [.ref bf, .ref kb, .ref to, .ref ro, .ref fw, .ref sw, .ref na, .ref wo])), (ro, .inr (4, [.ref rc, .int (nI n), .int (nI bs)]))]) hD hS hA [0, 1] rfl
  refine vx_calli (vx_runV (As := [.int y, .int y2]) (rest := [.int (nI 0), .ref out]) ⟨hx, hb, hml, hown, hts⟩ (x_X7_set_b1 l hl0 dC dI cI tS s.heap.size x bf kb to ro fw sw na wo rc n bs y y2 hn hbad) (cwV 2 hts gL_set_X7_set rfl rfl rfl (by decide +kernel) ⟨Nat.le_of_ble_eq_true rfl, Nat.le_of_ble_eq_true rfl⟩) ⟨gPf_blind, va_recv hK hPc (ci := 6) (q0 := 0) rfl rfl, gPf_pre hPc hK hDc (hG.at hS) hFc⟩ rfl rfl hl.1 rfl (lv_room (Nat.le_of_ble_eq_true rfl)) dL_set_5 ⟨Nat.le_of_ble_eq_true rfl, Nat.le_of_ble_eq_true rfl⟩) hS (fun q _ h => hFc q h) hFc (fun q _ h => hFc q h) (fun E9 ce9 q9 u8 t8 H1 locs ht hvm hpx hBX hz1 hk1 hS hce hcv hcl => ?_) (fun _ => fun _ _ _ _ _ _ hpost _ _ _ _ => hpost.elim)
  try dsimp only at hBX
  obtain ⟨rfl, hB⟩ := hBX
  obtain ⟨hP, hD⟩ := gB_join (wr := [(out, .inl (cL, 1, .inr (.inl o0)))]) (w2 := [(out, .inl (cL, 1, .inr (.inl o0))), (x, .inr (6, [.ref bf, .ref kb, .ref to, .ref ro, .ref fw, .ref sw, .ref na, .ref wo])), (ro, .inr (4, [.ref rc, .int (nI n), .int (nI bs)]))]) hP hD [0, 1] [2] rfl rfl (by decide) (by decide) hk1 hFc ht hB rfl
  clear hk1 hz1 ht hB hvm hPc hDc hFc
  generalize H1 = H at hP hS hce ⊢
  refine vx_catch (own := RL) (name := "java/lang/IndexOutOfBoundsException") (E := "java/lang/IndexOutOfBoundsException") hown [] ⟨0, 10, 13, 25⟩ [⟨0, 10, 17, 13⟩] (htab.trans rfl) (fun z hz => nomatch hz) (by decide) (by decide) (hts (.classLink RL 25 "java/lang/IndexOutOfBoundsException") (by decide +kernel)) (hG.2.cast "java/lang/IndexOutOfBoundsException" (by decide +kernel)) hce hcv hcl ?_
  refine W.widen (k := 1) (n := 6) (by omega) (by omega) ?_
  refine lv_astore (lv' := [(4, .ref q9), (0, .ref x), (1, .int y), (2, .int y2), (3, .ref out)]) hx hb dL_set_13 hl (by decide) rfl (fun ls hl => ?_)
  refine lv_iconst (v := nI 1) hx hb dL_set_15 (by decide) ?_
  exact W.iret (v := (nI 1)) hx hb hr (fun t ht hW => ⟨⟨_, (), rfl, rfl, gB2_end ht hW (hP.sub [1, 2, 0] rfl) hK2 (hD.sub [1, 2, 0] (by decide) rfl)⟩, hS.F ht⟩) hS.2.2 dL_set_16

set_option maxHeartbeats 4000000 in
set_option maxRecDepth 100000 in
/-- the law calls set: b2 -/
theorem w_L_set_b2 (l : Launch) (hl0 : l.stackTraces = false) (dC : Nat → ClassId) (dI : Nat → Nat → Nat) (cI cL : ClassId) (tS : Nat) (sz : Nat) (x : Nat) (bf : Nat) (kb : Nat) (to : Nat) (ro : Nat) (fw : Nat) (sw : Nat) (na : Nat) (wo : Nat) (rc : Nat) (n : Nat) (bs : Nat) (i : Nat) (y : Int32) (out : Nat) (o0 : Nat → Int64) (hi : i < n) (hn : n ≤ 64) (hb2 : bs ≤ 65536) (hbad : y.toInt < 0 ∨ (bs : Int) ≤ y.toInt) : Met l yL_set wsL_set ({ frames := 7, cells := 1, slots := 6, locals := 113 }) (gPw dC dI cI cL tS [.ref x, .int (nI i), .int y, .ref out] [(x, .inr (6, [.ref bf, .ref kb, .ref to, .ref ro, .ref fw, .ref sw, .ref na, .ref wo])), (ro, .inr (4, [.ref rc, .int (nI n), .int (nI bs)])), (out, .inl (cL, 1, .inr (.inl o0)))] sz) (va_Qi (fun (r7 : Int32) (_u : Unit) => r7 = (nI 2)) (fun _u t => gB2 dC dI cI cL (va_A [(x, .inr (6, [.ref bf, .ref kb, .ref to, .ref ro, .ref fw, .ref sw, .ref na, .ref wo])), (ro, .inr (4, [.ref rc, .int (nI n), .int (nI bs)])), (out, .inl (cL, 1, .inr (.inl o0)))] sz) [(x, .inr (6, [.ref bf, .ref kb, .ref to, .ref ro, .ref fw, .ref sw, .ref na, .ref wo])), (ro, .inr (4, [.ref rc, .int (nI n), .int (nI bs)])), (out, .inl (cL, 1, .inr (.inl o0)))] t) (va_A [(x, .inr (6, [.ref bf, .ref kb, .ref to, .ref ro, .ref fw, .ref sw, .ref na, .ref wo])), (ro, .inr (4, [.ref rc, .int (nI n), .int (nI bs)])), (out, .inl (cL, 1, .inr (.inl o0)))] sz)) 1 6 (va_A [(x, .inr (6, [.ref bf, .ref kb, .ref to, .ref ro, .ref fw, .ref sw, .ref na, .ref wo])), (ro, .inr (4, [.ref rc, .int (nI n), .int (nI bs)])), (out, .inl (cL, 1, .inr (.inl o0)))] sz) := by
  refine va_MetW (cc := cL_set) (maxL := 5) (ret := (some .int)) (by decide) rfl ?_
  intro p e s m args below meth c s₁ B9 hml hv
  obtain ⟨rfl, hsz, ⟨hP, hK2, hD0⟩, hG⟩ := hv
  have hK := hK2.sub (tys' := [(cI, .int)]) [0] rfl
  have hx := B9.exec
  have hb := B9.bytes
  have hr := B9.returns
  have hts := atoms_spec (ws := wsL_set) B9.pre
  have htab := vx_table (x := yL_set) B9 (hts _ List.mem_cons_self)
  have hown : s.vm.findClass RL = some m.cls := findClass_of_methodNamed B9.named
  have hlocks := B9.notSynchronized
  subst hsz
  have hD := hD0.self (sz := s.heap.size)
  generalize hAe : va_A [(x, .inr (6, [.ref bf, .ref kb, .ref to, .ref ro, .ref fw, .ref sw, .ref na, .ref wo])), (ro, .inr (4, [.ref rc, .int (nI n), .int (nI bs)])), (out, .inl (cL, 1, .inr (.inl o0)))] s.heap.size = A at hD hG ⊢
  have hE := hG.1
  have hA : ∀ q : Nat, s.heap.size ≤ q → A q := fun q h => by rw [← hAe]; exact Or.inr h
  have hS : va_S A s.heap s.heap [] := va_S.rf
  have hl := lv_entry ([.ref x, .int (nI i), .int y, .ref out]) (n := 5) (Nat.le_of_ble_eq_true rfl)
  rw [lg_entry_eq]
  generalize (lg_sl ([.ref x, .int (nI i), .int y, .ref out]) ++ List.replicate (5 - (lg_sl ([.ref x, .int (nI i), .int y, .ref out])).length) Slot.unset).toArray = ls at hl ⊢
  have hl : lv_has ls 5 [(0, .ref x), (1, .int (nI i)), (2, .int y), (3, .ref out)] := hl
  refine lv_aload_n hx hb dL_set_0 rfl (lv_at hl 3 rfl) ?_
  refine lv_iconst (v := nI 0) hx hb dL_set_1 (by decide) ?_
  refine lv_aload_n hx hb dL_set_2 rfl (lv_at hl 0 rfl) ?_
  refine lv_iload_n hx hb dL_set_3 rfl (lv_at hl 1 rfl) ?_
  refine lv_iload_n hx hb dL_set_4 rfl (lv_at hl 2 rfl) ?_
  have hPc := hP.sub (ws' := [(x, .inr (6, [.ref bf, .ref kb, .ref to, .ref ro, .ref fw, .ref sw, .ref na, .ref wo])), (ro, .inr (4, [.ref rc, .int (nI n), .int (nI bs)]))]) [0, 1] rfl
  have hDc := hD.sub (ws' := [(x, .inr (6, [.ref bf, .ref kb, .ref to, .ref ro, .ref fw, .ref sw, .ref na, .ref wo])), (ro, .inr (4, [.ref rc, .int (nI n), .int (nI bs)]))]) [0, 1] (by decide) rfl
  have hFc := va_free (wc := [(x, .inr (6, [.ref bf, .ref kb, .ref to, .ref ro, .ref fw, .ref sw, .ref na, .ref wo])), (ro, .inr (4, [.ref rc, .int (nI n), .int (nI bs)]))]) hD hS hA [0, 1] rfl
  refine vx_calli (vx_runV (As := [.int (nI i), .int y]) (rest := [.int (nI 0), .ref out]) ⟨hx, hb, hml, hown, hts⟩ (x_X7_set_b2 l hl0 dC dI cI tS s.heap.size x bf kb to ro fw sw na wo rc n bs i y hi hn hb2 hbad) (cwV 2 hts gL_set_X7_set rfl rfl rfl (by decide +kernel) ⟨Nat.le_of_ble_eq_true rfl, Nat.le_of_ble_eq_true rfl⟩) ⟨gPf_blind, va_recv hK hPc (ci := 6) (q0 := 0) rfl rfl, gPf_pre hPc hK hDc (hG.at hS) hFc⟩ rfl rfl hl.1 rfl (lv_room (Nat.le_of_ble_eq_true rfl)) dL_set_5 ⟨Nat.le_of_ble_eq_true rfl, Nat.le_of_ble_eq_true rfl⟩) hS (fun q _ h => hFc q h) hFc (fun q _ h => hFc q h) (fun E9 ce9 q9 u8 t8 H1 locs ht hvm hpx hBX hz1 hk1 hS hce hcv hcl => ?_) (fun _ => fun _ _ _ _ _ _ hpost _ _ _ _ => hpost.elim)
  try dsimp only at hBX
  obtain ⟨rfl, hB⟩ := hBX
  obtain ⟨hP, hD⟩ := gB_join (wr := [(out, .inl (cL, 1, .inr (.inl o0)))]) (w2 := [(out, .inl (cL, 1, .inr (.inl o0))), (x, .inr (6, [.ref bf, .ref kb, .ref to, .ref ro, .ref fw, .ref sw, .ref na, .ref wo])), (ro, .inr (4, [.ref rc, .int (nI n), .int (nI bs)]))]) hP hD [0, 1] [2] rfl rfl (by decide) (by decide) hk1 hFc ht hB rfl
  clear hk1 hz1 ht hB hvm hPc hDc hFc
  generalize H1 = H at hP hS hce ⊢
  refine vx_catch (own := RL) (name := "java/lang/IllegalArgumentException") (E := "java/lang/IllegalArgumentException") hown [⟨0, 10, 13, 25⟩] ⟨0, 10, 17, 13⟩ [] (htab.trans rfl) (fun z hz => by cases List.mem_singleton.mp hz; exact Or.inr ⟨by decide, "java/lang/IndexOutOfBoundsException", hts (.classLink RL 25 "java/lang/IndexOutOfBoundsException") (by decide +kernel), hG.2.2.2.2.2.2.1⟩) (by decide) (by decide) (hts (.classLink RL 13 "java/lang/IllegalArgumentException") (by decide +kernel)) (hG.2.cast "java/lang/IllegalArgumentException" (by decide +kernel)) hce hcv hcl ?_
  refine W.widen (k := 1) (n := 6) (by omega) (by omega) ?_
  refine lv_astore (lv' := [(4, .ref q9), (0, .ref x), (1, .int (nI i)), (2, .int y), (3, .ref out)]) hx hb dL_set_17 hl (by decide) rfl (fun ls hl => ?_)
  refine lv_iconst (v := nI 2) hx hb dL_set_19 (by decide) ?_
  exact W.iret (v := (nI 2)) hx hb hr (fun t ht hW => ⟨⟨_, (), rfl, rfl, gB2_end ht hW (hP.sub [1, 2, 0] rfl) hK2 (hD.sub [1, 2, 0] (by decide) rfl)⟩, hS.F ht⟩) hS.2.2 dL_set_20

set_option maxHeartbeats 4000000 in
set_option maxRecDepth 100000 in
/-- the law calls at: b1 -/
theorem w_L_at_b1 (l : Launch) (hl0 : l.stackTraces = false) (dC : Nat → ClassId) (dI : Nat → Nat → Nat) (cI cL : ClassId) (tS : Nat) (sz : Nat) (x : Nat) (bf : Nat) (kb : Nat) (to : Nat) (ro : Nat) (fw : Nat) (sw : Nat) (na : Nat) (wo : Nat) (rc : Nat) (n : Nat) (bs : Nat) (y : Int32) (out : Nat) (o0 : Nat → Int64) (hn : n ≤ 64) (hbad : y.toInt < 0 ∨ (n : Int) ≤ y.toInt) : Met l yL_at wsL_at ({ frames := 7, cells := 1, slots := 6, locals := 111 }) (gPw dC dI cI cL tS [.ref x, .int y, .ref out] [(x, .inr (6, [.ref bf, .ref kb, .ref to, .ref ro, .ref fw, .ref sw, .ref na, .ref wo])), (ro, .inr (4, [.ref rc, .int (nI n), .int (nI bs)])), (out, .inl (cL, 1, .inr (.inl o0)))] sz) (va_Qi (fun (r7 : Int32) (_u : Unit) => r7 = (nI 1)) (fun _u t => gB2 dC dI cI cL (va_A [(x, .inr (6, [.ref bf, .ref kb, .ref to, .ref ro, .ref fw, .ref sw, .ref na, .ref wo])), (ro, .inr (4, [.ref rc, .int (nI n), .int (nI bs)])), (out, .inl (cL, 1, .inr (.inl o0)))] sz) [(x, .inr (6, [.ref bf, .ref kb, .ref to, .ref ro, .ref fw, .ref sw, .ref na, .ref wo])), (ro, .inr (4, [.ref rc, .int (nI n), .int (nI bs)])), (out, .inl (cL, 1, .inr (.inl o0)))] t) (va_A [(x, .inr (6, [.ref bf, .ref kb, .ref to, .ref ro, .ref fw, .ref sw, .ref na, .ref wo])), (ro, .inr (4, [.ref rc, .int (nI n), .int (nI bs)])), (out, .inl (cL, 1, .inr (.inl o0)))] sz)) 1 6 (va_A [(x, .inr (6, [.ref bf, .ref kb, .ref to, .ref ro, .ref fw, .ref sw, .ref na, .ref wo])), (ro, .inr (4, [.ref rc, .int (nI n), .int (nI bs)])), (out, .inl (cL, 1, .inr (.inl o0)))] sz) := by
  refine va_MetW (cc := cL_at) (maxL := 4) (ret := (some .int)) (by decide) rfl ?_
  intro p e s m args below meth c s₁ B9 hml hv
  obtain ⟨rfl, hsz, ⟨hP, hK2, hD0⟩, hG⟩ := hv
  have hK := hK2.sub (tys' := [(cI, .int)]) [0] rfl
  have hx := B9.exec
  have hb := B9.bytes
  have hr := B9.returns
  have hts := atoms_spec (ws := wsL_at) B9.pre
  have htab := vx_table (x := yL_at) B9 (hts _ List.mem_cons_self)
  have hown : s.vm.findClass RL = some m.cls := findClass_of_methodNamed B9.named
  have hlocks := B9.notSynchronized
  subst hsz
  have hD := hD0.self (sz := s.heap.size)
  generalize hAe : va_A [(x, .inr (6, [.ref bf, .ref kb, .ref to, .ref ro, .ref fw, .ref sw, .ref na, .ref wo])), (ro, .inr (4, [.ref rc, .int (nI n), .int (nI bs)])), (out, .inl (cL, 1, .inr (.inl o0)))] s.heap.size = A at hD hG ⊢
  have hE := hG.1
  have hA : ∀ q : Nat, s.heap.size ≤ q → A q := fun q h => by rw [← hAe]; exact Or.inr h
  have hS : va_S A s.heap s.heap [] := va_S.rf
  have hl := lv_entry ([.ref x, .int y, .ref out]) (n := 4) (Nat.le_of_ble_eq_true rfl)
  rw [lg_entry_eq]
  generalize (lg_sl ([.ref x, .int y, .ref out]) ++ List.replicate (4 - (lg_sl ([.ref x, .int y, .ref out])).length) Slot.unset).toArray = ls at hl ⊢
  have hl : lv_has ls 4 [(0, .ref x), (1, .int y), (2, .ref out)] := hl
  refine lv_aload_n hx hb dL_at_0 rfl (lv_at hl 2 rfl) ?_
  refine lv_iconst (v := nI 0) hx hb dL_at_1 (by decide) ?_
  refine lv_aload_n hx hb dL_at_2 rfl (lv_at hl 0 rfl) ?_
  refine lv_iload_n hx hb dL_at_3 rfl (lv_at hl 1 rfl) ?_
  have hPc := hP.sub (ws' := [(x, .inr (6, [.ref bf, .ref kb, .ref to, .ref ro, .ref fw, .ref sw, .ref na, .ref wo])), (ro, .inr (4, [.ref rc, .int (nI n), .int (nI bs)]))]) [0, 1] rfl
  have hDc := hD.sub (ws' := [(x, .inr (6, [.ref bf, .ref kb, .ref to, .ref ro, .ref fw, .ref sw, .ref na, .ref wo])), (ro, .inr (4, [.ref rc, .int (nI n), .int (nI bs)]))]) [0, 1] (by decide) rfl
  have hFc := va_free (wc := [(x, .inr (6, [.ref bf, .ref kb, .ref to, .ref ro, .ref fw, .ref sw, .ref na, .ref wo])), (ro, .inr (4, [.ref rc, .int (nI n), .int (nI bs)]))]) hD hS hA [0, 1] rfl
  refine vx_calli (vx_runV (As := [.int y]) (rest := [.int (nI 0), .ref out]) ⟨hx, hb, hml, hown, hts⟩ (x_X7_at_b1 l hl0 dC dI cI tS s.heap.size x bf kb to ro fw sw na wo rc n bs y hn hbad) (cwV 1 hts gL_at_X7_at rfl rfl rfl (by decide +kernel) ⟨Nat.le_of_ble_eq_true rfl, Nat.le_of_ble_eq_true rfl⟩) ⟨gPf_blind, va_recv hK hPc (ci := 6) (q0 := 0) rfl rfl, gPf_pre hPc hK hDc (hG.at hS) hFc⟩ rfl rfl hl.1 rfl (lv_room (Nat.le_of_ble_eq_true rfl)) dL_at_4 ⟨Nat.le_of_ble_eq_true rfl, Nat.le_of_ble_eq_true rfl⟩) hS (fun q _ h => hFc q h) hFc (fun q _ h => hFc q h) (fun E9 ce9 q9 u8 t8 H1 locs ht hvm hpx hBX hz1 hk1 hS hce hcv hcl => ?_) (fun _ => fun _ _ _ _ _ _ hpost _ _ _ _ => hpost.elim)
  try dsimp only at hBX
  obtain ⟨rfl, hB⟩ := hBX
  obtain ⟨hP, hD⟩ := gB_join (wr := [(out, .inl (cL, 1, .inr (.inl o0)))]) (w2 := [(out, .inl (cL, 1, .inr (.inl o0))), (x, .inr (6, [.ref bf, .ref kb, .ref to, .ref ro, .ref fw, .ref sw, .ref na, .ref wo])), (ro, .inr (4, [.ref rc, .int (nI n), .int (nI bs)]))]) hP hD [0, 1] [2] rfl rfl (by decide) (by decide) hk1 hFc ht hB rfl
  clear hk1 hz1 ht hB hvm hPc hDc hFc
  generalize H1 = H at hP hS hce ⊢
  refine vx_catch (own := RL) (name := "java/lang/IndexOutOfBoundsException") (E := "java/lang/IndexOutOfBoundsException") hown [] ⟨0, 9, 12, 25⟩ [] (htab.trans rfl) (fun z hz => nomatch hz) (by decide) (by decide) (hts (.classLink RL 25 "java/lang/IndexOutOfBoundsException") (by decide +kernel)) (hG.2.cast "java/lang/IndexOutOfBoundsException" (by decide +kernel)) hce hcv hcl ?_
  refine W.widen (k := 1) (n := 6) (by omega) (by omega) ?_
  refine lv_astore_n (lv' := [(3, .ref q9), (0, .ref x), (1, .int y), (2, .ref out)]) hx hb dL_at_12 rfl hl (by decide) rfl (fun ls hl => ?_)
  refine lv_iconst (v := nI 1) hx hb dL_at_13 (by decide) ?_
  exact W.iret (v := (nI 1)) hx hb hr (fun t ht hW => ⟨⟨_, (), rfl, rfl, gB2_end ht hW (hP.sub [1, 2, 0] rfl) hK2 (hD.sub [1, 2, 0] (by decide) rfl)⟩, hS.F ht⟩) hS.2.2 dL_at_14

set_option maxHeartbeats 4000000 in
set_option maxRecDepth 100000 in
/-- the law calls can: b1 -/
theorem w_L_can_b1 (l : Launch) (hl0 : l.stackTraces = false) (dC : Nat → ClassId) (dI : Nat → Nat → Nat) (cI cL : ClassId) (tS : Nat) (sz : Nat) (x : Nat) (bf : Nat) (kb : Nat) (to : Nat) (ro : Nat) (fw : Nat) (sw : Nat) (na : Nat) (wo : Nat) (y : Int32) (out : Nat) (o0 : Nat → Int64) (hbad : y.toInt < 0 ∨ 1 < y.toInt) : Met l yL_can wsL_can ({ frames := 7, cells := 1, slots := 6, locals := 111 }) (gPw dC dI cI cL tS [.ref x, .int y, .ref out] [(x, .inr (6, [.ref bf, .ref kb, .ref to, .ref ro, .ref fw, .ref sw, .ref na, .ref wo])), (out, .inl (cL, 1, .inr (.inl o0)))] sz) (va_Qi (fun (r7 : Int32) (_u : Unit) => r7 = (nI 1)) (fun _u t => gB2 dC dI cI cL (va_A [(x, .inr (6, [.ref bf, .ref kb, .ref to, .ref ro, .ref fw, .ref sw, .ref na, .ref wo])), (out, .inl (cL, 1, .inr (.inl o0)))] sz) [(x, .inr (6, [.ref bf, .ref kb, .ref to, .ref ro, .ref fw, .ref sw, .ref na, .ref wo])), (out, .inl (cL, 1, .inr (.inl o0)))] t) (va_A [(x, .inr (6, [.ref bf, .ref kb, .ref to, .ref ro, .ref fw, .ref sw, .ref na, .ref wo])), (out, .inl (cL, 1, .inr (.inl o0)))] sz)) 1 6 (va_A [(x, .inr (6, [.ref bf, .ref kb, .ref to, .ref ro, .ref fw, .ref sw, .ref na, .ref wo])), (out, .inl (cL, 1, .inr (.inl o0)))] sz) := by
  refine va_MetW (cc := cL_can) (maxL := 4) (ret := (some .int)) (by decide) rfl ?_
  intro p e s m args below meth c s₁ B9 hml hv
  obtain ⟨rfl, hsz, ⟨hP, hK2, hD0⟩, hG⟩ := hv
  have hK := hK2.sub (tys' := [(cI, .int)]) [0] rfl
  have hx := B9.exec
  have hb := B9.bytes
  have hr := B9.returns
  have hts := atoms_spec (ws := wsL_can) B9.pre
  have htab := vx_table (x := yL_can) B9 (hts _ List.mem_cons_self)
  have hown : s.vm.findClass RL = some m.cls := findClass_of_methodNamed B9.named
  have hlocks := B9.notSynchronized
  subst hsz
  have hD := hD0.self (sz := s.heap.size)
  generalize hAe : va_A [(x, .inr (6, [.ref bf, .ref kb, .ref to, .ref ro, .ref fw, .ref sw, .ref na, .ref wo])), (out, .inl (cL, 1, .inr (.inl o0)))] s.heap.size = A at hD hG ⊢
  have hE := hG.1
  have hA : ∀ q : Nat, s.heap.size ≤ q → A q := fun q h => by rw [← hAe]; exact Or.inr h
  have hS : va_S A s.heap s.heap [] := va_S.rf
  have hl := lv_entry ([.ref x, .int y, .ref out]) (n := 4) (Nat.le_of_ble_eq_true rfl)
  rw [lg_entry_eq]
  generalize (lg_sl ([.ref x, .int y, .ref out]) ++ List.replicate (4 - (lg_sl ([.ref x, .int y, .ref out])).length) Slot.unset).toArray = ls at hl ⊢
  have hl : lv_has ls 4 [(0, .ref x), (1, .int y), (2, .ref out)] := hl
  refine lv_aload_n hx hb dL_can_0 rfl (lv_at hl 2 rfl) ?_
  refine lv_iconst (v := nI 0) hx hb dL_can_1 (by decide) ?_
  refine lv_aload_n hx hb dL_can_2 rfl (lv_at hl 0 rfl) ?_
  refine lv_iload_n hx hb dL_can_3 rfl (lv_at hl 1 rfl) ?_
  have hPc := hP.sub (ws' := [(x, .inr (6, [.ref bf, .ref kb, .ref to, .ref ro, .ref fw, .ref sw, .ref na, .ref wo]))]) [0] rfl
  have hDc := hD.sub (ws' := [(x, .inr (6, [.ref bf, .ref kb, .ref to, .ref ro, .ref fw, .ref sw, .ref na, .ref wo]))]) [0] (by decide) rfl
  have hFc := va_free (wc := [(x, .inr (6, [.ref bf, .ref kb, .ref to, .ref ro, .ref fw, .ref sw, .ref na, .ref wo]))]) hD hS hA [0] rfl
  refine vx_calli (vx_runV (As := [.int y]) (rest := [.int (nI 0), .ref out]) ⟨hx, hb, hml, hown, hts⟩ (x_X7_can_b1 l hl0 dC dI cI tS s.heap.size x bf kb to ro fw sw na wo y hbad) (cwV 1 hts gL_can_X7_can rfl rfl rfl (by decide +kernel) ⟨Nat.le_of_ble_eq_true rfl, Nat.le_of_ble_eq_true rfl⟩) ⟨gPf_blind, va_recv hK hPc (ci := 6) (q0 := 0) rfl rfl, gPf_pre hPc hK hDc (hG.at hS) hFc⟩ rfl rfl hl.1 rfl (lv_room (Nat.le_of_ble_eq_true rfl)) dL_can_4 ⟨Nat.le_of_ble_eq_true rfl, Nat.le_of_ble_eq_true rfl⟩) hS (fun q _ h => hFc q h) hFc (fun q _ h => hFc q h) (fun E9 ce9 q9 u8 t8 H1 locs ht hvm hpx hBX hz1 hk1 hS hce hcv hcl => ?_) (fun _ => fun _ _ _ _ _ _ hpost _ _ _ _ => hpost.elim)
  try dsimp only at hBX
  obtain ⟨rfl, hB⟩ := hBX
  obtain ⟨hP, hD⟩ := gB_join (wr := [(out, .inl (cL, 1, .inr (.inl o0)))]) (w2 := [(out, .inl (cL, 1, .inr (.inl o0))), (x, .inr (6, [.ref bf, .ref kb, .ref to, .ref ro, .ref fw, .ref sw, .ref na, .ref wo]))]) hP hD [0] [1] rfl rfl (by decide) (by decide) hk1 hFc ht hB rfl
  clear hk1 hz1 ht hB hvm hPc hDc hFc
  generalize H1 = H at hP hS hce ⊢
  refine vx_catch (own := RL) (name := "java/lang/IllegalArgumentException") (E := "java/lang/IllegalArgumentException") hown [] ⟨0, 16, 19, 13⟩ [] (htab.trans rfl) (fun z hz => nomatch hz) (by decide) (by decide) (hts (.classLink RL 13 "java/lang/IllegalArgumentException") (by decide +kernel)) (hG.2.cast "java/lang/IllegalArgumentException" (by decide +kernel)) hce hcv hcl ?_
  refine W.widen (k := 1) (n := 6) (by omega) (by omega) ?_
  refine lv_astore_n (lv' := [(3, .ref q9), (0, .ref x), (1, .int y), (2, .ref out)]) hx hb dL_can_19 rfl hl (by decide) rfl (fun ls hl => ?_)
  refine lv_iconst (v := nI 1) hx hb dL_can_20 (by decide) ?_
  exact W.iret (v := (nI 1)) hx hb hr (fun t ht hW => ⟨⟨_, (), rfl, rfl, gB2_end ht hW (hP.sub [1, 0] rfl) hK2 (hD.sub [1, 0] (by decide) rfl)⟩, hS.F ht⟩) hS.2.2 dL_can_21

set_option maxHeartbeats 4000000 in
set_option maxRecDepth 100000 in
/-- the law calls turn: b1 -/
theorem w_L_turn_b1 (l : Launch) (hl0 : l.stackTraces = false) (dC : Nat → ClassId) (dI : Nat → Nat → Nat) (cI cL : ClassId) (tS : Nat) (sz : Nat) (x : Nat) (bf : Nat) (kb : Nat) (to : Nat) (ro : Nat) (fw : Nat) (sw : Nat) (na : Nat) (wo : Nat) (y : Int32) (y2 : Int32) (hbad : y.toInt < 0 ∨ 1 < y.toInt) : Met l yL_turn wsL_turn ({ frames := 7, cells := 1, slots := 6, locals := 112 }) (gPw dC dI cI cL tS [.ref x, .int y, .int y2] [(x, .inr (6, [.ref bf, .ref kb, .ref to, .ref ro, .ref fw, .ref sw, .ref na, .ref wo]))] sz) (va_Qi (fun (r7 : Int32) (_u : Unit) => r7 = (nI 1)) (fun _u t => gB2 dC dI cI cL (va_A [(x, .inr (6, [.ref bf, .ref kb, .ref to, .ref ro, .ref fw, .ref sw, .ref na, .ref wo]))] sz) [(x, .inr (6, [.ref bf, .ref kb, .ref to, .ref ro, .ref fw, .ref sw, .ref na, .ref wo]))] t) (va_A [(x, .inr (6, [.ref bf, .ref kb, .ref to, .ref ro, .ref fw, .ref sw, .ref na, .ref wo]))] sz)) 1 6 (va_A [(x, .inr (6, [.ref bf, .ref kb, .ref to, .ref ro, .ref fw, .ref sw, .ref na, .ref wo]))] sz) := by
  refine va_MetW (cc := cL_turn) (maxL := 4) (ret := (some .int)) (by decide) rfl ?_
  intro p e s m args below meth c s₁ B9 hml hv
  obtain ⟨rfl, hsz, ⟨hP, hK2, hD0⟩, hG⟩ := hv
  have hK := hK2.sub (tys' := [(cI, .int)]) [0] rfl
  have hx := B9.exec
  have hb := B9.bytes
  have hr := B9.returns
  have hts := atoms_spec (ws := wsL_turn) B9.pre
  have htab := vx_table (x := yL_turn) B9 (hts _ List.mem_cons_self)
  have hown : s.vm.findClass RL = some m.cls := findClass_of_methodNamed B9.named
  have hlocks := B9.notSynchronized
  subst hsz
  have hD := hD0.self (sz := s.heap.size)
  generalize hAe : va_A [(x, .inr (6, [.ref bf, .ref kb, .ref to, .ref ro, .ref fw, .ref sw, .ref na, .ref wo]))] s.heap.size = A at hD hG ⊢
  have hE := hG.1
  have hA : ∀ q : Nat, s.heap.size ≤ q → A q := fun q h => by rw [← hAe]; exact Or.inr h
  have hS : va_S A s.heap s.heap [] := va_S.rf
  have hl := lv_entry ([.ref x, .int y, .int y2]) (n := 4) (Nat.le_of_ble_eq_true rfl)
  rw [lg_entry_eq]
  generalize (lg_sl ([.ref x, .int y, .int y2]) ++ List.replicate (4 - (lg_sl ([.ref x, .int y, .int y2])).length) Slot.unset).toArray = ls at hl ⊢
  have hl : lv_has ls 4 [(0, .ref x), (1, .int y), (2, .int y2)] := hl
  refine lv_aload_n hx hb dL_turn_0 rfl (lv_at hl 0 rfl) ?_
  refine lv_iload_n hx hb dL_turn_1 rfl (lv_at hl 1 rfl) ?_
  refine lv_iload_n hx hb dL_turn_2 rfl (lv_at hl 2 rfl) ?_
  have hPc := hP.sub (ws' := [(x, .inr (6, [.ref bf, .ref kb, .ref to, .ref ro, .ref fw, .ref sw, .ref na, .ref wo]))]) [0] rfl
  have hDc := hD.sub (ws' := [(x, .inr (6, [.ref bf, .ref kb, .ref to, .ref ro, .ref fw, .ref sw, .ref na, .ref wo]))]) [0] (by decide) rfl
  have hFc := va_free (wc := [(x, .inr (6, [.ref bf, .ref kb, .ref to, .ref ro, .ref fw, .ref sw, .ref na, .ref wo]))]) hD hS hA [0] rfl
  refine vx_callv (vx_runV (As := [.int y, .int y2]) (rest := []) ⟨hx, hb, hml, hown, hts⟩ (x_X7_turn_b1 l hl0 dC dI cI tS s.heap.size x bf kb to ro fw sw na wo y y2 hbad) (cwV 2 hts gL_turn_X7_turn rfl rfl rfl (by decide +kernel) ⟨Nat.le_of_ble_eq_true rfl, Nat.le_of_ble_eq_true rfl⟩) ⟨gPf_blind, va_recv hK hPc (ci := 6) (q0 := 0) rfl rfl, gPf_pre hPc hK hDc (hG.at hS) hFc⟩ rfl rfl hl.1 rfl (lv_room (Nat.le_of_ble_eq_true rfl)) dL_turn_3 ⟨Nat.le_of_ble_eq_true rfl, Nat.le_of_ble_eq_true rfl⟩) hS (fun q _ h => hFc q h) hFc (fun q _ h => hFc q h) (fun E9 ce9 q9 u8 t8 H1 locs ht hvm hpx hBX hz1 hk1 hS hce hcv hcl => ?_) (fun _ _ _ _ _ _ hpost _ _ _ _ => hpost.elim)
  try dsimp only at hBX
  obtain ⟨rfl, hB⟩ := hBX
  obtain ⟨hP, hD⟩ := gB_join (wr := []) (w2 := [(x, .inr (6, [.ref bf, .ref kb, .ref to, .ref ro, .ref fw, .ref sw, .ref na, .ref wo]))]) hP hD [0] [] rfl rfl (by decide) (by decide) hk1 hFc ht hB rfl
  clear hk1 hz1 ht hB hvm hPc hDc hFc
  generalize H1 = H at hP hS hce ⊢
  refine vx_catch (own := RL) (name := "java/lang/IllegalArgumentException") (E := "java/lang/IllegalArgumentException") hown [] ⟨0, 6, 9, 13⟩ [⟨0, 6, 12, 61⟩] (htab.trans rfl) (fun z hz => nomatch hz) (by decide) (by decide) (hts (.classLink RL 13 "java/lang/IllegalArgumentException") (by decide +kernel)) (hG.2.cast "java/lang/IllegalArgumentException" (by decide +kernel)) hce hcv hcl ?_
  refine W.widen (k := 1) (n := 6) (by omega) (by omega) ?_
  refine lv_astore_n (lv' := [(3, .ref q9), (0, .ref x), (1, .int y), (2, .int y2)]) hx hb dL_turn_9 rfl hl (by decide) rfl (fun ls hl => ?_)
  refine lv_iconst (v := nI 1) hx hb dL_turn_10 (by decide) ?_
  exact W.iret (v := (nI 1)) hx hb hr (fun t ht hW => ⟨⟨_, (), rfl, rfl, gB2_end ht hW hP hK2 hD⟩, hS.F ht⟩) hS.2.2 dL_turn_11

set_option maxHeartbeats 4000000 in
set_option maxRecDepth 100000 in
/-- the law calls turn: b2_0 -/
theorem w_L_turn_b2_0 (l : Launch) (hl0 : l.stackTraces = false) (dC : Nat → ClassId) (dI : Nat → Nat → Nat) (cI cL : ClassId) (tS : Nat) (sz : Nat) (x : Nat) (bf : Nat) (kb : Nat) (to : Nat) (ro : Nat) (fw : Nat) (sw : Nat) (na : Nat) (wo : Nat) (rc : Nat) (tc : Nat) (nc : Nat) (n : Nat) (bs : Nat) (tn : Nat) (k0 : Nat) (ci : Nat) (tw : Nat) (stt : Nat) (chd : Nat) (spr : Nat) (iw : Nat) (rp : Nat) (aw : Nat) (f0 : Nat → Nat) (y2 : Int32) (hn : n ≤ 64) (hb1 : 2 ≤ bs) (hb2 : bs ≤ 65536) (htn : tn ≤ 64) (hno : ¬ (2 ≤ n ∧ 1000000 ≤ bs ^ n)) : Met l yL_turn wsL_turn ({ frames := 7, cells := 1, slots := 6, locals := 112 }) (gPw dC dI cI cL tS [.ref x, .int (nI 0), .int y2] [(x, .inr (6, [.ref bf, .ref kb, .ref to, .ref ro, .ref fw, .ref sw, .ref na, .ref wo])), (ro, .inr (4, [.ref rc, .int (nI n), .int (nI bs)])), (to, .inr (1, [.ref tc, .int (nI tn)])), (fw, .inr (2, [.ref ci, .ref tw, .ref stt, .ref chd, .ref spr, .int (nI iw), .int (nI rp), .int (nI aw)])), (na, .inr (3, [.ref nc, .int (nI k0)])), (nc, .inl (cI, 17, .inl (gA f0)))] sz) (va_Qi (fun (r7 : Int32) (u : Nat × (Nat → Nat)) => r7 = (nI 2)) (fun u t => gB2 dC dI cI cL (va_A [(x, .inr (6, [.ref bf, .ref kb, .ref to, .ref ro, .ref fw, .ref sw, .ref na, .ref wo])), (ro, .inr (4, [.ref rc, .int (nI n), .int (nI bs)])), (to, .inr (1, [.ref tc, .int (nI tn)])), (fw, .inr (2, [.ref ci, .ref tw, .ref stt, .ref chd, .ref spr, .int (nI iw), .int (nI rp), .int (nI aw)])), (na, .inr (3, [.ref nc, .int (nI k0)])), (nc, .inl (cI, 17, .inl (gA f0)))] sz) [(x, .inr (6, [.ref bf, .ref kb, .ref to, .ref ro, .ref fw, .ref sw, .ref na, .ref wo])), (ro, .inr (4, [.ref rc, .int (nI n), .int (nI bs)])), (to, .inr (1, [.ref tc, .int (nI tn)])), (fw, .inr (2, [.ref ci, .ref tw, .ref stt, .ref chd, .ref spr, .int (nI iw), .int (nI rp), .int (nI aw)])), (na, .inr (3, [.ref nc, .int (nI u.1)])), (nc, .inl (cI, 17, .inl (gA u.2)))] t) (va_A [(x, .inr (6, [.ref bf, .ref kb, .ref to, .ref ro, .ref fw, .ref sw, .ref na, .ref wo])), (ro, .inr (4, [.ref rc, .int (nI n), .int (nI bs)])), (to, .inr (1, [.ref tc, .int (nI tn)])), (fw, .inr (2, [.ref ci, .ref tw, .ref stt, .ref chd, .ref spr, .int (nI iw), .int (nI rp), .int (nI aw)])), (na, .inr (3, [.ref nc, .int (nI k0)])), (nc, .inl (cI, 17, .inl (gA f0)))] sz)) 1 6 (va_A [(x, .inr (6, [.ref bf, .ref kb, .ref to, .ref ro, .ref fw, .ref sw, .ref na, .ref wo])), (ro, .inr (4, [.ref rc, .int (nI n), .int (nI bs)])), (to, .inr (1, [.ref tc, .int (nI tn)])), (fw, .inr (2, [.ref ci, .ref tw, .ref stt, .ref chd, .ref spr, .int (nI iw), .int (nI rp), .int (nI aw)])), (na, .inr (3, [.ref nc, .int (nI k0)])), (nc, .inl (cI, 17, .inl (gA f0)))] sz) := by
  refine va_MetW (cc := cL_turn) (maxL := 4) (ret := (some .int)) (by decide) rfl ?_
  intro p e s m args below meth c s₁ B9 hml hv
  obtain ⟨rfl, hsz, ⟨hP, hK2, hD0⟩, hG⟩ := hv
  have hK := hK2.sub (tys' := [(cI, .int)]) [0] rfl
  have hx := B9.exec
  have hb := B9.bytes
  have hr := B9.returns
  have hts := atoms_spec (ws := wsL_turn) B9.pre
  have htab := vx_table (x := yL_turn) B9 (hts _ List.mem_cons_self)
  have hown : s.vm.findClass RL = some m.cls := findClass_of_methodNamed B9.named
  have hlocks := B9.notSynchronized
  subst hsz
  have hD := hD0.self (sz := s.heap.size)
  generalize hAe : va_A [(x, .inr (6, [.ref bf, .ref kb, .ref to, .ref ro, .ref fw, .ref sw, .ref na, .ref wo])), (ro, .inr (4, [.ref rc, .int (nI n), .int (nI bs)])), (to, .inr (1, [.ref tc, .int (nI tn)])), (fw, .inr (2, [.ref ci, .ref tw, .ref stt, .ref chd, .ref spr, .int (nI iw), .int (nI rp), .int (nI aw)])), (na, .inr (3, [.ref nc, .int (nI k0)])), (nc, .inl (cI, 17, .inl (gA f0)))] s.heap.size = A at hD hG ⊢
  have hE := hG.1
  have hA : ∀ q : Nat, s.heap.size ≤ q → A q := fun q h => by rw [← hAe]; exact Or.inr h
  have hS : va_S A s.heap s.heap [] := va_S.rf
  have hl := lv_entry ([.ref x, .int (nI 0), .int y2]) (n := 4) (Nat.le_of_ble_eq_true rfl)
  rw [lg_entry_eq]
  generalize (lg_sl ([.ref x, .int (nI 0), .int y2]) ++ List.replicate (4 - (lg_sl ([.ref x, .int (nI 0), .int y2])).length) Slot.unset).toArray = ls at hl ⊢
  have hl : lv_has ls 4 [(0, .ref x), (1, .int (nI 0)), (2, .int y2)] := hl
  refine lv_aload_n hx hb dL_turn_0 rfl (lv_at hl 0 rfl) ?_
  refine lv_iload_n hx hb dL_turn_1 rfl (lv_at hl 1 rfl) ?_
  refine lv_iload_n hx hb dL_turn_2 rfl (lv_at hl 2 rfl) ?_
  have hPc := hP.sub (ws' := [(x, .inr (6, [.ref bf, .ref kb, .ref to, .ref ro, .ref fw, .ref sw, .ref na, .ref wo])), (ro, .inr (4, [.ref rc, .int (nI n), .int (nI bs)])), (to, .inr (1, [.ref tc, .int (nI tn)])), (fw, .inr (2, [.ref ci, .ref tw, .ref stt, .ref chd, .ref spr, .int (nI iw), .int (nI rp), .int (nI aw)])), (na, .inr (3, [.ref nc, .int (nI k0)])), (nc, .inl (cI, 17, .inl (gA f0)))]) [0, 1, 2, 3, 4, 5] rfl
  have hDc := hD.sub (ws' := [(x, .inr (6, [.ref bf, .ref kb, .ref to, .ref ro, .ref fw, .ref sw, .ref na, .ref wo])), (ro, .inr (4, [.ref rc, .int (nI n), .int (nI bs)])), (to, .inr (1, [.ref tc, .int (nI tn)])), (fw, .inr (2, [.ref ci, .ref tw, .ref stt, .ref chd, .ref spr, .int (nI iw), .int (nI rp), .int (nI aw)])), (na, .inr (3, [.ref nc, .int (nI k0)])), (nc, .inl (cI, 17, .inl (gA f0)))]) [0, 1, 2, 3, 4, 5] (by decide) rfl
  have hFc := va_free (wc := [(x, .inr (6, [.ref bf, .ref kb, .ref to, .ref ro, .ref fw, .ref sw, .ref na, .ref wo])), (ro, .inr (4, [.ref rc, .int (nI n), .int (nI bs)])), (to, .inr (1, [.ref tc, .int (nI tn)])), (fw, .inr (2, [.ref ci, .ref tw, .ref stt, .ref chd, .ref spr, .int (nI iw), .int (nI rp), .int (nI aw)])), (na, .inr (3, [.ref nc, .int (nI k0)])), (nc, .inl (cI, 17, .inl (gA f0)))]) hD hS hA [0, 1, 2, 3, 4, 5] rfl
  refine vx_callv (vx_runV (As := [.int (nI 0), .int y2]) (rest := []) ⟨hx, hb, hml, hown, hts⟩ (x_X7_turn_b2_0 l hl0 dC dI cI tS s.heap.size x bf kb to ro fw sw na wo rc tc nc n bs tn k0 ci tw stt chd spr iw rp aw f0 y2 hn hb1 hb2 htn hno) (cwV 2 hts gL_turn_X7_turn rfl rfl rfl (by decide +kernel) ⟨Nat.le_of_ble_eq_true rfl, Nat.le_of_ble_eq_true rfl⟩) ⟨gPf_blind, va_recv hK hPc (ci := 6) (q0 := 0) rfl rfl, gPf_pre hPc hK hDc (hG.at hS) hFc⟩ rfl rfl hl.1 rfl (lv_room (Nat.le_of_ble_eq_true rfl)) dL_turn_3 ⟨Nat.le_of_ble_eq_true rfl, Nat.le_of_ble_eq_true rfl⟩) hS (fun q _ h => hFc q h) hFc (fun q _ h => hFc q h) (fun E9 ce9 q9 u8 t8 H1 locs ht hvm hpx hBX hz1 hk1 hS hce hcv hcl => ?_) (fun _ _ _ _ _ _ hpost _ _ _ _ => hpost.elim)
  obtain ⟨m9_1, f9_1⟩ := u8
  try dsimp only at hBX
  obtain ⟨rfl, hB⟩ := hBX
  obtain ⟨hP, hD⟩ := gB_join (wr := []) (w2 := [(x, .inr (6, [.ref bf, .ref kb, .ref to, .ref ro, .ref fw, .ref sw, .ref na, .ref wo])), (ro, .inr (4, [.ref rc, .int (nI n), .int (nI bs)])), (to, .inr (1, [.ref tc, .int (nI tn)])), (fw, .inr (2, [.ref ci, .ref tw, .ref stt, .ref chd, .ref spr, .int (nI iw), .int (nI rp), .int (nI aw)])), (na, .inr (3, [.ref nc, .int (nI m9_1)])), (nc, .inl (cI, 17, .inl (gA f9_1)))]) hP hD [0, 1, 2, 3, 4, 5] [] rfl rfl (by decide) (by decide) hk1 hFc ht hB rfl
  clear hk1 hz1 ht hB hvm hPc hDc hFc
  generalize H1 = H at hP hS hce ⊢
  refine vx_catch (own := RL) (name := "java/lang/IllegalStateException") (E := "java/lang/IllegalStateException") hown [⟨0, 6, 9, 13⟩] ⟨0, 6, 12, 61⟩ [] (htab.trans rfl) (fun z hz => by cases List.mem_singleton.mp hz; exact Or.inr ⟨by decide, "java/lang/IllegalArgumentException", hts (.classLink RL 13 "java/lang/IllegalArgumentException") (by decide +kernel), hG.2.2.2.2.2.2.2⟩) (by decide) (by decide) (hts (.classLink RL 61 "java/lang/IllegalStateException") (by decide +kernel)) (hG.2.cast "java/lang/IllegalStateException" (by decide +kernel)) hce hcv hcl ?_
  refine W.widen (k := 1) (n := 6) (by omega) (by omega) ?_
  refine lv_astore_n (lv' := [(3, .ref q9), (0, .ref x), (1, .int (nI 0)), (2, .int y2)]) hx hb dL_turn_12 rfl hl (by decide) rfl (fun ls hl => ?_)
  refine lv_iconst (v := nI 2) hx hb dL_turn_13 (by decide) ?_
  exact W.iret (v := (nI 2)) hx hb hr (fun t ht hW => ⟨⟨_, (m9_1, f9_1), rfl, rfl, gB2_end ht hW hP hK2 hD⟩, hS.F ht⟩) hS.2.2 dL_turn_14

set_option maxHeartbeats 4000000 in
set_option maxRecDepth 100000 in
/-- the law calls turn: b2_1 -/
theorem w_L_turn_b2_1 (l : Launch) (hl0 : l.stackTraces = false) (dC : Nat → ClassId) (dI : Nat → Nat → Nat) (cI cL : ClassId) (tS : Nat) (sz : Nat) (x : Nat) (bf : Nat) (kb : Nat) (to : Nat) (ro : Nat) (fw : Nat) (sw : Nat) (na : Nat) (wo : Nat) (rc : Nat) (tc : Nat) (nc : Nat) (n : Nat) (bs : Nat) (tn : Nat) (k0 : Nat) (ci2 : Nat) (tu : Nat) (lf : Nat) (rt : Nat) (f0 : Nat → Nat) (y2 : Int32) (hn : n ≤ 64) (hb1 : 2 ≤ bs) (hb2 : bs ≤ 65536) (htn : tn ≤ 64) (hno : ¬ ((2 ≤ n ∧ 1000000 ≤ bs ^ n) ∧ (tn = 7 ∧ bl (bs ^ (n - n / 2) - 1) ≤ 12))) : Met l yL_turn wsL_turn ({ frames := 7, cells := 1, slots := 6, locals := 159 }) (gPw dC dI cI cL tS [.ref x, .int (nI 1), .int y2] [(x, .inr (6, [.ref bf, .ref kb, .ref to, .ref ro, .ref fw, .ref sw, .ref na, .ref wo])), (ro, .inr (4, [.ref rc, .int (nI n), .int (nI bs)])), (to, .inr (1, [.ref tc, .int (nI tn)])), (sw, .inr (5, [.ref ci2, .ref tu, .int (nI lf), .int (nI rt)])), (na, .inr (3, [.ref nc, .int (nI k0)])), (nc, .inl (cI, 17, .inl (gA f0)))] sz) (va_Qi (fun (r7 : Int32) (u : Nat × (Nat → Nat)) => r7 = (nI 2)) (fun u t => gB2 dC dI cI cL (va_A [(x, .inr (6, [.ref bf, .ref kb, .ref to, .ref ro, .ref fw, .ref sw, .ref na, .ref wo])), (ro, .inr (4, [.ref rc, .int (nI n), .int (nI bs)])), (to, .inr (1, [.ref tc, .int (nI tn)])), (sw, .inr (5, [.ref ci2, .ref tu, .int (nI lf), .int (nI rt)])), (na, .inr (3, [.ref nc, .int (nI k0)])), (nc, .inl (cI, 17, .inl (gA f0)))] sz) [(x, .inr (6, [.ref bf, .ref kb, .ref to, .ref ro, .ref fw, .ref sw, .ref na, .ref wo])), (ro, .inr (4, [.ref rc, .int (nI n), .int (nI bs)])), (to, .inr (1, [.ref tc, .int (nI tn)])), (sw, .inr (5, [.ref ci2, .ref tu, .int (nI lf), .int (nI rt)])), (na, .inr (3, [.ref nc, .int (nI u.1)])), (nc, .inl (cI, 17, .inl (gA u.2)))] t) (va_A [(x, .inr (6, [.ref bf, .ref kb, .ref to, .ref ro, .ref fw, .ref sw, .ref na, .ref wo])), (ro, .inr (4, [.ref rc, .int (nI n), .int (nI bs)])), (to, .inr (1, [.ref tc, .int (nI tn)])), (sw, .inr (5, [.ref ci2, .ref tu, .int (nI lf), .int (nI rt)])), (na, .inr (3, [.ref nc, .int (nI k0)])), (nc, .inl (cI, 17, .inl (gA f0)))] sz)) 1 6 (va_A [(x, .inr (6, [.ref bf, .ref kb, .ref to, .ref ro, .ref fw, .ref sw, .ref na, .ref wo])), (ro, .inr (4, [.ref rc, .int (nI n), .int (nI bs)])), (to, .inr (1, [.ref tc, .int (nI tn)])), (sw, .inr (5, [.ref ci2, .ref tu, .int (nI lf), .int (nI rt)])), (na, .inr (3, [.ref nc, .int (nI k0)])), (nc, .inl (cI, 17, .inl (gA f0)))] sz) := by
  refine va_MetW (cc := cL_turn) (maxL := 4) (ret := (some .int)) (by decide) rfl ?_
  intro p e s m args below meth c s₁ B9 hml hv
  obtain ⟨rfl, hsz, ⟨hP, hK2, hD0⟩, hG⟩ := hv
  have hK := hK2.sub (tys' := [(cI, .int)]) [0] rfl
  have hx := B9.exec
  have hb := B9.bytes
  have hr := B9.returns
  have hts := atoms_spec (ws := wsL_turn) B9.pre
  have htab := vx_table (x := yL_turn) B9 (hts _ List.mem_cons_self)
  have hown : s.vm.findClass RL = some m.cls := findClass_of_methodNamed B9.named
  have hlocks := B9.notSynchronized
  subst hsz
  have hD := hD0.self (sz := s.heap.size)
  generalize hAe : va_A [(x, .inr (6, [.ref bf, .ref kb, .ref to, .ref ro, .ref fw, .ref sw, .ref na, .ref wo])), (ro, .inr (4, [.ref rc, .int (nI n), .int (nI bs)])), (to, .inr (1, [.ref tc, .int (nI tn)])), (sw, .inr (5, [.ref ci2, .ref tu, .int (nI lf), .int (nI rt)])), (na, .inr (3, [.ref nc, .int (nI k0)])), (nc, .inl (cI, 17, .inl (gA f0)))] s.heap.size = A at hD hG ⊢
  have hE := hG.1
  have hA : ∀ q : Nat, s.heap.size ≤ q → A q := fun q h => by rw [← hAe]; exact Or.inr h
  have hS : va_S A s.heap s.heap [] := va_S.rf
  have hl := lv_entry ([.ref x, .int (nI 1), .int y2]) (n := 4) (Nat.le_of_ble_eq_true rfl)
  rw [lg_entry_eq]
  generalize (lg_sl ([.ref x, .int (nI 1), .int y2]) ++ List.replicate (4 - (lg_sl ([.ref x, .int (nI 1), .int y2])).length) Slot.unset).toArray = ls at hl ⊢
  have hl : lv_has ls 4 [(0, .ref x), (1, .int (nI 1)), (2, .int y2)] := hl
  refine lv_aload_n hx hb dL_turn_0 rfl (lv_at hl 0 rfl) ?_
  refine lv_iload_n hx hb dL_turn_1 rfl (lv_at hl 1 rfl) ?_
  refine lv_iload_n hx hb dL_turn_2 rfl (lv_at hl 2 rfl) ?_
  have hPc := hP.sub (ws' := [(x, .inr (6, [.ref bf, .ref kb, .ref to, .ref ro, .ref fw, .ref sw, .ref na, .ref wo])), (ro, .inr (4, [.ref rc, .int (nI n), .int (nI bs)])), (to, .inr (1, [.ref tc, .int (nI tn)])), (sw, .inr (5, [.ref ci2, .ref tu, .int (nI lf), .int (nI rt)])), (na, .inr (3, [.ref nc, .int (nI k0)])), (nc, .inl (cI, 17, .inl (gA f0)))]) [0, 1, 2, 3, 4, 5] rfl
  have hDc := hD.sub (ws' := [(x, .inr (6, [.ref bf, .ref kb, .ref to, .ref ro, .ref fw, .ref sw, .ref na, .ref wo])), (ro, .inr (4, [.ref rc, .int (nI n), .int (nI bs)])), (to, .inr (1, [.ref tc, .int (nI tn)])), (sw, .inr (5, [.ref ci2, .ref tu, .int (nI lf), .int (nI rt)])), (na, .inr (3, [.ref nc, .int (nI k0)])), (nc, .inl (cI, 17, .inl (gA f0)))]) [0, 1, 2, 3, 4, 5] (by decide) rfl
  have hFc := va_free (wc := [(x, .inr (6, [.ref bf, .ref kb, .ref to, .ref ro, .ref fw, .ref sw, .ref na, .ref wo])), (ro, .inr (4, [.ref rc, .int (nI n), .int (nI bs)])), (to, .inr (1, [.ref tc, .int (nI tn)])), (sw, .inr (5, [.ref ci2, .ref tu, .int (nI lf), .int (nI rt)])), (na, .inr (3, [.ref nc, .int (nI k0)])), (nc, .inl (cI, 17, .inl (gA f0)))]) hD hS hA [0, 1, 2, 3, 4, 5] rfl
  refine vx_callv (vx_runV (As := [.int (nI 1), .int y2]) (rest := []) ⟨hx, hb, hml, hown, hts⟩ (x_X7_turn_b2_1 l hl0 dC dI cI tS s.heap.size x bf kb to ro fw sw na wo rc tc nc n bs tn k0 ci2 tu lf rt f0 y2 hn hb1 hb2 htn hno) (cwV 2 hts gL_turn_X7_turn rfl rfl rfl (by decide +kernel) ⟨Nat.le_of_ble_eq_true rfl, Nat.le_of_ble_eq_true rfl⟩) ⟨gPf_blind, va_recv hK hPc (ci := 6) (q0 := 0) rfl rfl, gPf_pre hPc hK hDc (hG.at hS) hFc⟩ rfl rfl hl.1 rfl (lv_room (Nat.le_of_ble_eq_true rfl)) dL_turn_3 ⟨Nat.le_of_ble_eq_true rfl, Nat.le_of_ble_eq_true rfl⟩) hS (fun q _ h => hFc q h) hFc (fun q _ h => hFc q h) (fun E9 ce9 q9 u8 t8 H1 locs ht hvm hpx hBX hz1 hk1 hS hce hcv hcl => ?_) (fun _ _ _ _ _ _ hpost _ _ _ _ => hpost.elim)
  obtain ⟨m9_1, f9_1⟩ := u8
  try dsimp only at hBX
  obtain ⟨rfl, hB⟩ := hBX
  obtain ⟨hP, hD⟩ := gB_join (wr := []) (w2 := [(x, .inr (6, [.ref bf, .ref kb, .ref to, .ref ro, .ref fw, .ref sw, .ref na, .ref wo])), (ro, .inr (4, [.ref rc, .int (nI n), .int (nI bs)])), (to, .inr (1, [.ref tc, .int (nI tn)])), (sw, .inr (5, [.ref ci2, .ref tu, .int (nI lf), .int (nI rt)])), (na, .inr (3, [.ref nc, .int (nI m9_1)])), (nc, .inl (cI, 17, .inl (gA f9_1)))]) hP hD [0, 1, 2, 3, 4, 5] [] rfl rfl (by decide) (by decide) hk1 hFc ht hB rfl
  clear hk1 hz1 ht hB hvm hPc hDc hFc
  generalize H1 = H at hP hS hce ⊢
  refine vx_catch (own := RL) (name := "java/lang/IllegalStateException") (E := "java/lang/IllegalStateException") hown [⟨0, 6, 9, 13⟩] ⟨0, 6, 12, 61⟩ [] (htab.trans rfl) (fun z hz => by cases List.mem_singleton.mp hz; exact Or.inr ⟨by decide, "java/lang/IllegalArgumentException", hts (.classLink RL 13 "java/lang/IllegalArgumentException") (by decide +kernel), hG.2.2.2.2.2.2.2⟩) (by decide) (by decide) (hts (.classLink RL 61 "java/lang/IllegalStateException") (by decide +kernel)) (hG.2.cast "java/lang/IllegalStateException" (by decide +kernel)) hce hcv hcl ?_
  refine W.widen (k := 1) (n := 6) (by omega) (by omega) ?_
  refine lv_astore_n (lv' := [(3, .ref q9), (0, .ref x), (1, .int (nI 1)), (2, .int y2)]) hx hb dL_turn_12 rfl hl (by decide) rfl (fun ls hl => ?_)
  refine lv_iconst (v := nI 2) hx hb dL_turn_13 (by decide) ?_
  exact W.iret (v := (nI 2)) hx hb hr (fun t ht hW => ⟨⟨_, (m9_1, f9_1), rfl, rfl, gB2_end ht hW hP hK2 hD⟩, hS.F ht⟩) hS.2.2 dL_turn_14

set_option maxHeartbeats 4000000 in
set_option maxRecDepth 100000 in
/-- the law calls count: b1 -/
theorem w_L_count_b1 (l : Launch) (hl0 : l.stackTraces = false) (dC : Nat → ClassId) (dI : Nat → Nat → Nat) (cI cL : ClassId) (tS : Nat) (sz : Nat) (x : Nat) (bf : Nat) (kb : Nat) (to : Nat) (ro : Nat) (fw : Nat) (sw : Nat) (na : Nat) (wo : Nat) (y : Int32) (out : Nat) (o0 : Nat → Int64) (hbad : y.toInt < 0 ∨ 4 < y.toInt) : Met l yL_count wsL_count ({ frames := 7, cells := 1, slots := 6, locals := 111 }) (gPw dC dI cI cL tS [.ref x, .int y, .ref out] [(x, .inr (6, [.ref bf, .ref kb, .ref to, .ref ro, .ref fw, .ref sw, .ref na, .ref wo])), (out, .inl (cL, 1, .inr (.inl o0)))] sz) (va_Qi (fun (r7 : Int32) (_u : Unit) => r7 = (nI 1)) (fun _u t => gB2 dC dI cI cL (va_A [(x, .inr (6, [.ref bf, .ref kb, .ref to, .ref ro, .ref fw, .ref sw, .ref na, .ref wo])), (out, .inl (cL, 1, .inr (.inl o0)))] sz) [(x, .inr (6, [.ref bf, .ref kb, .ref to, .ref ro, .ref fw, .ref sw, .ref na, .ref wo])), (out, .inl (cL, 1, .inr (.inl o0)))] t) (va_A [(x, .inr (6, [.ref bf, .ref kb, .ref to, .ref ro, .ref fw, .ref sw, .ref na, .ref wo])), (out, .inl (cL, 1, .inr (.inl o0)))] sz)) 1 6 (va_A [(x, .inr (6, [.ref bf, .ref kb, .ref to, .ref ro, .ref fw, .ref sw, .ref na, .ref wo])), (out, .inl (cL, 1, .inr (.inl o0)))] sz) := by
  refine va_MetW (cc := cL_count) (maxL := 4) (ret := (some .int)) (by decide) rfl ?_
  intro p e s m args below meth c s₁ B9 hml hv
  obtain ⟨rfl, hsz, ⟨hP, hK2, hD0⟩, hG⟩ := hv
  have hK := hK2.sub (tys' := [(cI, .int)]) [0] rfl
  have hx := B9.exec
  have hb := B9.bytes
  have hr := B9.returns
  have hts := atoms_spec (ws := wsL_count) B9.pre
  have htab := vx_table (x := yL_count) B9 (hts _ List.mem_cons_self)
  have hown : s.vm.findClass RL = some m.cls := findClass_of_methodNamed B9.named
  have hlocks := B9.notSynchronized
  subst hsz
  have hD := hD0.self (sz := s.heap.size)
  generalize hAe : va_A [(x, .inr (6, [.ref bf, .ref kb, .ref to, .ref ro, .ref fw, .ref sw, .ref na, .ref wo])), (out, .inl (cL, 1, .inr (.inl o0)))] s.heap.size = A at hD hG ⊢
  have hE := hG.1
  have hA : ∀ q : Nat, s.heap.size ≤ q → A q := fun q h => by rw [← hAe]; exact Or.inr h
  have hS : va_S A s.heap s.heap [] := va_S.rf
  have hl := lv_entry ([.ref x, .int y, .ref out]) (n := 4) (Nat.le_of_ble_eq_true rfl)
  rw [lg_entry_eq]
  generalize (lg_sl ([.ref x, .int y, .ref out]) ++ List.replicate (4 - (lg_sl ([.ref x, .int y, .ref out])).length) Slot.unset).toArray = ls at hl ⊢
  have hl : lv_has ls 4 [(0, .ref x), (1, .int y), (2, .ref out)] := hl
  refine lv_aload_n hx hb dL_count_0 rfl (lv_at hl 2 rfl) ?_
  refine lv_iconst (v := nI 0) hx hb dL_count_1 (by decide) ?_
  refine lv_aload_n hx hb dL_count_2 rfl (lv_at hl 0 rfl) ?_
  refine lv_iload_n hx hb dL_count_3 rfl (lv_at hl 1 rfl) ?_
  have hPc := hP.sub (ws' := [(x, .inr (6, [.ref bf, .ref kb, .ref to, .ref ro, .ref fw, .ref sw, .ref na, .ref wo]))]) [0] rfl
  have hDc := hD.sub (ws' := [(x, .inr (6, [.ref bf, .ref kb, .ref to, .ref ro, .ref fw, .ref sw, .ref na, .ref wo]))]) [0] (by decide) rfl
  have hFc := va_free (wc := [(x, .inr (6, [.ref bf, .ref kb, .ref to, .ref ro, .ref fw, .ref sw, .ref na, .ref wo]))]) hD hS hA [0] rfl
  refine vx_calli (vx_runV (As := [.int y]) (rest := [.int (nI 0), .ref out]) ⟨hx, hb, hml, hown, hts⟩ (x_X7_count_b1 l hl0 dC dI cI tS s.heap.size x bf kb to ro fw sw na wo y hbad) (cwV 1 hts gL_count_X7_count rfl rfl rfl (by decide +kernel) ⟨Nat.le_of_ble_eq_true rfl, Nat.le_of_ble_eq_true rfl⟩) ⟨gPf_blind, va_recv hK hPc (ci := 6) (q0 := 0) rfl rfl, gPf_pre hPc hK hDc (hG.at hS) hFc⟩ rfl rfl hl.1 rfl (lv_room (Nat.le_of_ble_eq_true rfl)) dL_count_4 ⟨Nat.le_of_ble_eq_true rfl, Nat.le_of_ble_eq_true rfl⟩) hS (fun q _ h => hFc q h) hFc (fun q _ h => hFc q h) (fun E9 ce9 q9 u8 t8 H1 locs ht hvm hpx hBX hz1 hk1 hS hce hcv hcl => ?_) (fun _ => fun _ _ _ _ _ _ hpost _ _ _ _ => hpost.elim)
  try dsimp only at hBX
  obtain ⟨rfl, hB⟩ := hBX
  obtain ⟨hP, hD⟩ := gB_join (wr := [(out, .inl (cL, 1, .inr (.inl o0)))]) (w2 := [(out, .inl (cL, 1, .inr (.inl o0))), (x, .inr (6, [.ref bf, .ref kb, .ref to, .ref ro, .ref fw, .ref sw, .ref na, .ref wo]))]) hP hD [0] [1] rfl rfl (by decide) (by decide) hk1 hFc ht hB rfl
  clear hk1 hz1 ht hB hvm hPc hDc hFc
  generalize H1 = H at hP hS hce ⊢
  refine vx_catch (own := RL) (name := "java/lang/IndexOutOfBoundsException") (E := "java/lang/IndexOutOfBoundsException") hown [] ⟨0, 9, 12, 25⟩ [] (htab.trans rfl) (fun z hz => nomatch hz) (by decide) (by decide) (hts (.classLink RL 25 "java/lang/IndexOutOfBoundsException") (by decide +kernel)) (hG.2.cast "java/lang/IndexOutOfBoundsException" (by decide +kernel)) hce hcv hcl ?_
  refine W.widen (k := 1) (n := 6) (by omega) (by omega) ?_
  refine lv_astore_n (lv' := [(3, .ref q9), (0, .ref x), (1, .int y), (2, .ref out)]) hx hb dL_count_12 rfl hl (by decide) rfl (fun ls hl => ?_)
  refine lv_iconst (v := nI 1) hx hb dL_count_13 (by decide) ?_
  exact W.iret (v := (nI 1)) hx hb hr (fun t ht hW => ⟨⟨_, (), rfl, rfl, gB2_end ht hW (hP.sub [1, 0] rfl) hK2 (hD.sub [1, 0] (by decide) rfl)⟩, hS.F ht⟩) hS.2.2 dL_count_14
