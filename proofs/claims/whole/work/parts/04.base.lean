/-! Rows of mine: labels, downward counters, longs, contracts over worlds. -/
theorem gz_pred1 (j : Nat) : nI j + Int32.ofInt (-1) = nI j - 1 := by
  rw [show Int32.ofInt (-1) = -1 from by decide]
  rw [Int32.sub_eq_add_neg]
theorem gz_dec1 (j : Nat) : nI (j + 1) + Int32.ofInt (-1) = nI j := by
  rw [show Int32.ofInt (-1) = -1 from by decide]
  exact pk_m1 j
theorem gz_inc1 (a : Nat) : nI a + Int32.ofInt 1 = nI (a + 1) := by
  rw [show Int32.ofInt 1 = nI 1 from by decide]
  exact nI_add a 1
theorem gz_inc4 (a : Nat) : nI a + Int32.ofInt 4 = nI (a + 4) := by
  rw [show Int32.ofInt 4 = nI 4 from by decide]
  exact nI_add a 4
theorem gz_inc16 (a : Nat) : nI a + Int32.ofInt 16 = nI (a + 16) := by
  rw [show Int32.ofInt 16 = nI 16 from by decide]
  exact nI_add a 16
theorem gz_max {a b : Nat} (ha : a < 2147483648) (hb : b < 2147483648) : (if nI a < nI b then nI b else nI a) = nI (max a b) := by
  by_cases h : a < b
  · rw [if_pos ((nI_ltI ha hb).mpr h), Nat.max_eq_right (by omega)]
  · rw [if_neg (fun q => h ((nI_ltI ha hb).mp q)), Nat.max_eq_left (by omega)]
section GL
variable {p : Program} {l : Launch} {e : Env} {R : Room} {s : State} {m : MethodId} {args : Array Value} {below : List Frame} {meth : Method} {c : Code} {H : Heap} {locs : List Loc} {cells slots : Nat} {Q : State → Prop}
variable {cc : ByteArray} {pc : Nat} {ls : Array Slot} {rest : List Value}
/-- a place of a walk, proved once -/
theorem gw_lab {g : JFrame} (G : Room → Array Value → (State → Prop) → Prop) (hG : G R args Q) (k : G R args Q → W p l e R s m args below meth c H locs cells slots Q g) : W p l e R s m args below meth c H locs cells slots Q g := k hG
theorem gz_lcnt : ∀ k, k < 64 → ((nI k).toInt64 &&& 63) = lN k := by decide +kernel
theorem gz_lcntu : ∀ k, k < 64 → ((nI k).toInt64.toUInt64 &&& Int64.toUInt64 63) = UInt64.ofNat k := by decide +kernel
theorem gz_lsm : ∀ k, k < 64 → (BitVec.ofNat 64 k).smod 64 = BitVec.ofNat 64 k := by decide +kernel
theorem gz_ltn (n : Nat) : (lN n).toBitVec.toNat = n % 2 ^ 64 := by
  show (BitVec.ofNat 64 n).toNat = _
  rw [BitVec.toNat_ofNat]
theorem gz_lext {x y : Int64} (h : x.toBitVec.toNat = y.toBitVec.toNat) : x = y := Int64.toBitVec_inj.mp (BitVec.eq_of_toNat_eq h)
theorem gz_land (a b : Nat) : lN a &&& lN b = lN (a &&& b) := by
  apply Int64.toBitVec_inj.1
  show BitVec.ofNat 64 a &&& BitVec.ofNat 64 b = BitVec.ofNat 64 (a &&& b)
  apply BitVec.eq_of_getLsbD_eq
  intro i hi
  simp [BitVec.getLsbD_ofNat, hi]
theorem gz_lor (a b : Nat) : lN a ||| lN b = lN (a ||| b) := by
  apply Int64.toBitVec_inj.1
  show BitVec.ofNat 64 a ||| BitVec.ofNat 64 b = BitVec.ofNat 64 (a ||| b)
  apply BitVec.eq_of_getLsbD_eq
  intro i hi
  simp [BitVec.getLsbD_ofNat, hi]
theorem gz_lshl (n : Nat) {k : Nat} (hk : k < 64) : lN n <<< ((nI k).toInt64 &&& 63) = lN (n * 2 ^ k) := by
  rw [gz_lcnt k hk]
  apply gz_lext
  show ((lN n).toBitVec <<< ((lN k).toBitVec.smod 64).toNat).toNat = _
  rw [show (lN k).toBitVec = BitVec.ofNat 64 k from rfl, gz_lsm k hk, BitVec.toNat_shiftLeft, Nat.shiftLeft_eq, gz_ltn, gz_ltn, BitVec.toNat_ofNat, Nat.mod_eq_of_lt (a := k) (by omega), Nat.mod_mul_mod]
theorem gz_lushr {n k : Nat} (hn : n < 2 ^ 64) (hk : k < 64) : ((lN n).toUInt64 >>> ((nI k).toInt64.toUInt64 &&& Int64.toUInt64 63)).toInt64 = lN (n / 2 ^ k) := by
  rw [gz_lcntu k hk]
  apply gz_lext
  have e : ((lN n).toUInt64 >>> UInt64.ofNat k).toInt64.toBitVec = (lN n).toBitVec >>> ((UInt64.ofNat k).toBitVec % 64).toNat := UInt64.toBitVec_shiftRight _ _
  have e2 : ((UInt64.ofNat k).toBitVec % 64).toNat = k := by
    show ((BitVec.ofNat 64 k) % 64).toNat = k
    rw [BitVec.toNat_umod, BitVec.toNat_ofNat]
    show k % 2 ^ 64 % 64 = k
    omega
  rw [e, e2, BitVec.toNat_ushiftRight, Nat.shiftRight_eq_div_pow, gz_ltn, gz_ltn, Nat.mod_eq_of_lt hn, Nat.mod_eq_of_lt (Nat.lt_of_le_of_lt (Nat.div_le_self _ _) hn)]
theorem gz_lshr {n k : Nat} (hn : n < 2 ^ 63) (hk : k < 64) : lN n >>> ((nI k).toInt64 &&& 63) = lN (n / 2 ^ k) := by
  rw [gz_lcnt k hk]
  apply Int64.toInt_inj.mp
  have h2 : n / 2 ^ k ≤ n := Nat.div_le_self _ _
  show ((lN n).toBitVec.sshiftRight ((lN k).toBitVec.smod 64).toNat).toInt = _
  rw [show (lN k).toBitVec = BitVec.ofNat 64 k from rfl, gz_lsm k hk, BitVec.toInt_sshiftRight, BitVec.toNat_ofNat, Nat.mod_eq_of_lt (a := k) (by omega), pk_lT (by omega)]
  show (lN n).toInt >>> k = _
  rw [pk_lT (by omega), Int.shiftRight_eq_div_pow]
  rfl
theorem gl_ladd (hexec : p.tables.exec = Jvm.exec) (hb : c.code = cc) {a b r : Nat} (hdg : decode cc pc = .ok (.ladd, 1)) (hr : a + b = r) (k : W p l e R s m args below meth c H locs cells slots Q (F0 m (pc + 1) ls (.long (lN r) :: rest))) : W p l e R s m args below meth c H locs cells slots Q (F0 m pc ls (.long (lN b) :: .long (lN a) :: rest)) := lv_ladd hexec hb hdg (by rw [lN_add, hr]; exact k)
theorem gl_lmul (hexec : p.tables.exec = Jvm.exec) (hb : c.code = cc) {a b r : Nat} (hdg : decode cc pc = .ok (.lmul, 1)) (hr : a * b = r) (k : W p l e R s m args below meth c H locs cells slots Q (F0 m (pc + 1) ls (.long (lN r) :: rest))) : W p l e R s m args below meth c H locs cells slots Q (F0 m pc ls (.long (lN b) :: .long (lN a) :: rest)) := lv_lmul hexec hb hdg (by rw [lN_mul, hr]; exact k)
theorem gl_land (hexec : p.tables.exec = Jvm.exec) (hb : c.code = cc) {a b r : Nat} (hdg : decode cc pc = .ok (.land, 1)) (hr : a &&& b = r) (k : W p l e R s m args below meth c H locs cells slots Q (F0 m (pc + 1) ls (.long (lN r) :: rest))) : W p l e R s m args below meth c H locs cells slots Q (F0 m pc ls (.long (lN b) :: .long (lN a) :: rest)) := lv_land hexec hb hdg (by rw [gz_land, hr]; exact k)
theorem gl_lor (hexec : p.tables.exec = Jvm.exec) (hb : c.code = cc) {a b r : Nat} (hdg : decode cc pc = .ok (.lor, 1)) (hr : a ||| b = r) (k : W p l e R s m args below meth c H locs cells slots Q (F0 m (pc + 1) ls (.long (lN r) :: rest))) : W p l e R s m args below meth c H locs cells slots Q (F0 m pc ls (.long (lN b) :: .long (lN a) :: rest)) := lv_lor hexec hb hdg (by rw [gz_lor, hr]; exact k)
theorem gl_ldiv (hexec : p.tables.exec = Jvm.exec) (hb : c.code = cc) {a b r : Nat} (hdg : decode cc pc = .ok (.ldiv, 1)) (ha : a < 9223372036854775808) (h0 : 0 < b) (hb2 : b < 9223372036854775808) (hr : a / b = r) (k : W p l e R s m args below meth c H locs cells slots Q (F0 m (pc + 1) ls (.long (lN r) :: rest))) : W p l e R s m args below meth c H locs cells slots Q (F0 m pc ls (.long (lN b) :: .long (lN a) :: rest)) := lv_ldiv hexec hb hdg (fun q => by have := (pk_lEQ hb2 (by decide)).mp (q.trans (show (0 : Int64) = lN 0 from by decide)); omega) (by rw [pk_lDiv ha h0 hb2, hr]; exact k)
theorem gl_lrem (hexec : p.tables.exec = Jvm.exec) (hb : c.code = cc) {a b r : Nat} (hdg : decode cc pc = .ok (.lrem, 1)) (ha : a < 9223372036854775808) (h0 : 0 < b) (hb2 : b < 9223372036854775808) (hr : a % b = r) (k : W p l e R s m args below meth c H locs cells slots Q (F0 m (pc + 1) ls (.long (lN r) :: rest))) : W p l e R s m args below meth c H locs cells slots Q (F0 m pc ls (.long (lN b) :: .long (lN a) :: rest)) := lv_lrem hexec hb hdg (fun q => by have := (pk_lEQ hb2 (by decide)).mp (q.trans (show (0 : Int64) = lN 0 from by decide)); omega) (by rw [pk_lRem ha h0 hb2, hr]; exact k)
theorem gl_lshl (hexec : p.tables.exec = Jvm.exec) (hb : c.code = cc) {a b r : Nat} (hdg : decode cc pc = .ok (.lshl, 1)) (hb2 : b < 64) (hr : a * 2 ^ b = r) (k : W p l e R s m args below meth c H locs cells slots Q (F0 m (pc + 1) ls (.long (lN r) :: rest))) : W p l e R s m args below meth c H locs cells slots Q (F0 m pc ls (.int (nI b) :: .long (lN a) :: rest)) := lv_lshl (v := lN r) hexec hb hdg (by rw [gz_lshl a hb2, hr]) k
theorem gl_lushr (hexec : p.tables.exec = Jvm.exec) (hb : c.code = cc) {a b r : Nat} (hdg : decode cc pc = .ok (.lushr, 1)) (ha : a < 18446744073709551616) (hb2 : b < 64) (hr : a / 2 ^ b = r) (k : W p l e R s m args below meth c H locs cells slots Q (F0 m (pc + 1) ls (.long (lN r) :: rest))) : W p l e R s m args below meth c H locs cells slots Q (F0 m pc ls (.int (nI b) :: .long (lN a) :: rest)) := lv_lushr (v := lN r) hexec hb hdg (by rw [gz_lushr ha hb2, hr]) k
theorem gl_lshr (hexec : p.tables.exec = Jvm.exec) (hb : c.code = cc) {a b r : Nat} (hdg : decode cc pc = .ok (.lshr, 1)) (ha : a < 9223372036854775808) (hb2 : b < 64) (hr : a / 2 ^ b = r) (k : W p l e R s m args below meth c H locs cells slots Q (F0 m (pc + 1) ls (.long (lN r) :: rest))) : W p l e R s m args below meth c H locs cells slots Q (F0 m pc ls (.int (nI b) :: .long (lN a) :: rest)) := lv_lshr (v := lN r) hexec hb hdg (by rw [gz_lshr ha hb2, hr]) k
/-- a comparison of longs, and the branch behind it -/
theorem gl_cmp_ge (hexec : p.tables.exec = Jvm.exec) (hb : c.code = cc) {a b : Nat} {off : Int} {tgt : Nat} (hdg : decode cc pc = .ok (.lcmp, 1)) (hd2 : decode cc (pc + 1) = .ok (.ifCond .ge off, 3)) (ht : ((pc + 1 : Nat) : Int) + off = (tgt : Int)) (ha : a < 9223372036854775808) (hb2 : b < 9223372036854775808) (kt : b ≤ a → W p l e R s m args below meth c H locs cells slots Q (F0 m tgt ls rest)) (kf : a < b → W p l e R s m args below meth c H locs cells slots Q (F0 m (pc + 1 + 3) ls rest)) : W p l e R s m args below meth c H locs cells slots Q (F0 m pc ls (.long (lN b) :: .long (lN a) :: rest)) :=
  W.lcmp hexec hb hdg (lv_if_ge hexec hb hd2 ht (fun h => kt ((pk_lLE hb2 ha).mp ((lg_cmp_ge _ _).mp h))) (fun h => kf (Nat.not_le.mp fun q => h ((lg_cmp_ge _ _).mpr ((pk_lLE hb2 ha).mpr q)))))
theorem gl_cmp_lt (hexec : p.tables.exec = Jvm.exec) (hb : c.code = cc) {a b : Nat} {off : Int} {tgt : Nat} (hdg : decode cc pc = .ok (.lcmp, 1)) (hd2 : decode cc (pc + 1) = .ok (.ifCond .lt off, 3)) (ht : ((pc + 1 : Nat) : Int) + off = (tgt : Int)) (ha : a < 9223372036854775808) (hb2 : b < 9223372036854775808) (kt : a < b → W p l e R s m args below meth c H locs cells slots Q (F0 m tgt ls rest)) (kf : b ≤ a → W p l e R s m args below meth c H locs cells slots Q (F0 m (pc + 1 + 3) ls rest)) : W p l e R s m args below meth c H locs cells slots Q (F0 m pc ls (.long (lN b) :: .long (lN a) :: rest)) :=
  W.lcmp hexec hb hdg (lv_if_lt hexec hb hd2 ht (fun h => kt ((pk_lLT ha hb2).mp ((lg_cmp_lt _ _).mp h))) (fun h => kf (Nat.not_lt.mp fun q => h ((lg_cmp_lt _ _).mpr ((pk_lLT ha hb2).mpr q)))))
theorem gl_cmp_eq (hexec : p.tables.exec = Jvm.exec) (hb : c.code = cc) {a b : Nat} {off : Int} {tgt : Nat} (hdg : decode cc pc = .ok (.lcmp, 1)) (hd2 : decode cc (pc + 1) = .ok (.ifCond .eq off, 3)) (ht : ((pc + 1 : Nat) : Int) + off = (tgt : Int)) (ha : a < 9223372036854775808) (hb2 : b < 9223372036854775808) (kt : a = b → W p l e R s m args below meth c H locs cells slots Q (F0 m tgt ls rest)) (kf : a ≠ b → W p l e R s m args below meth c H locs cells slots Q (F0 m (pc + 1 + 3) ls rest)) : W p l e R s m args below meth c H locs cells slots Q (F0 m pc ls (.long (lN b) :: .long (lN a) :: rest)) :=
  W.lcmp hexec hb hdg (lv_if_eq hexec hb hd2 ht (fun h => kt ((pk_lEQ ha hb2).mp ((lg_cmp_eq _ _).mp h))) (fun h => kf (fun q => h ((lg_cmp_eq _ _).mpr ((pk_lEQ ha hb2).mpr q)))))
end GL
/-! contracts over worlds -/
def gB (dC : Nat → ClassId) (dI : Nat → Nat → Nat) (cI : ClassId) (A : Nat → Prop) (ws : va_W) (t : State) : Prop := va_P (dC, dI) vwCl ws t.heap ∧ va_K (dC, dI) vwCl [(cI, .int)] t ∧ va_D A ws
def gPc (dC : Nat → ClassId) (dI : Nat → Nat → Nat) (cI : ClassId) (av : List Value) (ws : va_W) (sz : Nat) : Array Value → State → Prop := va_Pc av (fun U => U.heap.size = sz ∧ gB dC dI cI (fun _ => True) ws U)
theorem gPc_blind {dC : Nat → ClassId} {dI : Nat → Nat → Nat} {cI : ClassId} {av : List Value} {ws : va_W} {sz : Nat} : FrameBlind (gPc dC dI cI av ws sz) := fun a U g mk q => by
  obtain ⟨q0, q1, qP, qK, qD⟩ := q
  exact ⟨q0, q1, qP, va_K.moved (u := U) (U := U.calling g mk a) (Vm.Alike.refl U.vm) qK, qD⟩
theorem gPc_pre {dC : Nat → ClassId} {dI : Nat → Nat → Nat} {cI : ClassId} {av : List Value} {wc : va_W} {s : State} {H : Heap} {A : Nat → Prop} (hP : va_P (dC, dI) vwCl wc H) (hK : va_K (dC, dI) vwCl [(cI, .int)] s) (hD : va_D A wc) : ∀ U : State, U.heap = H → s.WarmedH U.vm → gPc dC dI cI av wc H.size av.toArray U := fun U hU hW =>
  ⟨rfl, by rw [hU], by rw [hU]; exact hP, va_K.moved hW.alike hK, hD.weaken (fun _ _ _ _ => trivial)⟩
theorem gB_join {A0 : Nat → Prop} {dC : Nat → ClassId} {dI : Nat → Nat → Nat} {cI : ClassId} {ws wc wr w1 w2 : va_W} {H H1 : Heap} {t : State} (hP : va_P (dC, dI) vwCl ws H) (hD : va_D A0 ws) (isC isR : List Nat) (hC : isC.map (fun i => ws[i]?) = wc.map some) (hR : isR.map (fun i => ws[i]?) = wr.map some) (hn : va_nd isR = true) (hdis : ∀ i ∈ isR, i ∉ isC)
    (hk : ∀ q : Nat, q < H.size → ¬ va_A wc H.size q → H1[q]? = H[q]?) (hF : ∀ q, va_A wc H.size q → A0 q) (ht : t.heap = H1) (hB : gB dC dI cI (va_A wc H.size) w1 t) (hw : wr ++ w1 = w2) : va_P (dC, dI) vwCl w2 H1 ∧ va_D A0 w2 := by
  obtain ⟨hP1, -, hD1⟩ := hB
  rw [ht] at hP1
  rw [← hw]
  exact va_join hP hD isC isR hC hR hn hdis hk hF hP1 hD1
theorem gB_end {dC : Nat → ClassId} {dI : Nat → Nat → Nat} {cI : ClassId} {A : Nat → Prop} {ws : va_W} {s t : State} {H : Heap} (ht : t.heap = H) (hW : s.WarmedH t.vm) (hP : va_P (dC, dI) vwCl ws H) (hK : va_K (dC, dI) vwCl [(cI, .int)] s) (hD : va_D A ws) : gB dC dI cI A ws t := ⟨by rw [ht]; exact hP, va_K.moved hW.alike hK, hD⟩
/-- four ints from one row into another -/
def cp4 (b g : Nat → Nat) : Nat → Nat := fun j => if j < 4 then b j else g j
theorem cp4_lt {b g : Nat → Nat} {j : Nat} (h : j < 4) : cp4 b g j = b j := if_pos h
theorem cp4_cpy (b g : Nat → Nat) : va_cpy (gA b) (gA g) 0 0 4 = gA (cp4 b g) := by
  funext j
  unfold va_cpy gA cp4
  by_cases h : j < 4
  · rw [if_pos ⟨Nat.zero_le j, by omega⟩, if_pos h, Nat.sub_zero, Nat.zero_add]
  · rw [if_neg (fun q => h (by omega)), if_neg h]
section GC
variable {p : Program} {l : Launch} {e : Env} {R : Room} {s : State} {m : MethodId} {args : Array Value} {below : List Frame} {meth : Method} {c : Code} {H : Heap} {locs : List Loc} {cells slots : Nat} {Q : State → Prop}
variable {cc : ByteArray} {pc : Nat} {ls : Array Slot} {rest : List Value} {D : va_G} {cl : List vw_C} {A : Nat → Prop} {a : Nat} {tys : List (ClassId × FieldType)} {ws ws' : va_W} {H0 : Heap}
theorem gv_copy4 (hexec : p.tables.exec = Jvm.exec) (hb : c.code = cc) (hml : c.maxLocals = ls.size) {own : String} {index : Nat} (hown : s.vm.findClass own = some m.cls) (hlink : (Cond.methodLink own index arraycopyName).before args s = true) (hnat : (Cond.native arraycopyName).before args s = true) (hstat : (Cond.static arraycopyName).before args s = true) (hini : (Cond.initialized "java/lang/System").before args s = true)
    (hK : va_K D cl tys s) (hP : va_P D cl ws H) (hD : va_D A ws) (hS : va_S A H0 H locs) (q0 q1 t0 : Nat) {a0 : Nat} {cA : ClassId} {b g : Nat → Nat} (ha0 : ws[q0]? = some (a0, .inl (cA, 4, .inl (gA b)))) (ha1 : ws[q1]? = some (a, .inl (cA, 4, .inl (gA g)))) (ht : tys[t0]? = some (cA, .int)) (hw : ws.set q1 (a, .inl (cA, 4, .inl (gA (cp4 b g)))) = ws')
    (hframes : 1 ≤ R.frames) (hlocals : (rest.map fun v => v.category).sum + (nativeFrameWords "java/lang/System" "arraycopy" 5 + 11) ≤ R.locals) (hdg : decode cc pc = .ok (.invokestatic index, 3))
    (kk : ∀ (H1 : Heap) (locs1 : List Loc), va_P D cl ws' H1 → va_D A ws' → va_S A H0 H1 locs1 → W p l e R s m args below meth c H1 locs1 cells slots Q (F0 m (pc + 3) ls rest)) : W p l e R s m args below meth c H locs cells slots Q (F0 m pc ls (.int (nI 4) :: .int (nI 0) :: .ref a :: .int (nI 0) :: .ref a0 :: rest)) := by
  have e0 : (nI 0).toNatClampNeg = 0 := nI_clamp (by decide)
  have e4 : (nI 4).toNatClampNeg = 4 := nI_clamp (by decide)
  refine va_copyi hexec hb hml hown hlink hnat hstat hini hK hP hD hS q0 q1 t0 t0 ha0 ha1 ht ht rfl (nI_pos (by decide)) (nI_pos (by decide)) (nI_pos (by decide)) (by rw [e0, e4]; decide) (by rw [e0, e4]; decide) (fun _ _ => rfl) hframes hlocals hdg ?_
  rw [e0, e4, cp4_cpy, hw]
  exact kk
end GC
/-- a call that answers a known reference and changes nothing -/
def QcRefR (q : Nat) : Array Value → State → Outcome → State → Prop := fun _ st o t => o = .returned (some (.ref q)) ∧ t.heap = st.heap
section GF
variable {p : Program} {l : Launch} {e : Env} {R : Room} {s : State} {m : MethodId} {args : Array Value} {below : List Frame} {meth : Method} {c : Code} {H : Heap} {locs : List Loc} {cells slots : Nat} {Q : State → Prop}
variable {pc : Nat} {ls : Array Slot} {rest : List Value}
theorem gv_callRf {mcx : Array Value} {r : Nat} {st0 : List Value} (hr : CallRun p l e R s m args below meth c H locs cells slots 0 0 (F0 m pc ls st0) rest (QcRefR r mcx) (fun _ => False)) (kk : W p l e R s m args below meth c H locs cells slots Q (F0 m (pc + 3) ls (.ref r :: rest))) : W p l e R s m args below meth c H locs cells slots Q (F0 m pc ls st0) := by
  intro T hT X
  obtain ⟨v, st₀, t, T', L, h0, X', hL, e1, ⟨hv, hh⟩, st⟩ := hr T hT X
  cases hv
  obtain ⟨t2, a1, b1⟩ := kk T' (by rw [e1, hh, h0]) (Stand.forget X' (fun q h => (hL q h).elim))
  exact ⟨t2, st t2 a1, b1⟩
end GF
