/-! What the law finds at its entry. -/
theorem env_nest : ∀ w ∈ nestWs, w ∈ lw_tbl := mem_r [58, 59, 60, 62, 63, 77, 79, 80, 81, 83, 84, 110, 53, 72, 94, 97, 103, 151, 154, 168, 473, 541, 548, 557, 573, 589] (by decide +kernel)
theorem env_nestT : ∀ w ∈ nestWs, w.onTables = true := by decide +kernel
theorem env_cast : ∀ w ∈ castWs, w ∈ lw_tbl := mem_r [245, 314, 346, 522, 247, 249, 251] (by decide +kernel)
theorem env_castT : ∀ w ∈ castWs, w.onTables = true := by decide +kernel
def strWs : List Cond := strL.map (fun q => Cond.stringRef RX7 q.1 q.2)
theorem env_str : ∀ w ∈ strWs, w ∈ lw_tbl := mem_r [285, 321, 335, 353, 367, 379, 387, 410, 422, 423, 431, 443, 458, 529, 635] (by decide +kernel)
def env1 : List Cond := [.laysStatic RX0 "S" "[I", .initialized RX0, .laysStatic Bundle.tN "UNASSIGNED_STACK" Bundle.steD, .laysStatic Bundle.tN "SUPPRESSED_SENTINEL" Bundle.listD, .initialized Bundle.tN, .arrayClass .int, .arrayClass .long, .instantiable RX0 3, .instantiable RX1 2, .instantiable RX2 8, .instantiable RX3 2, .instantiable RX4 3, .instantiable RX5 4, .instantiable RX7 8, .instantiable RX8 23]
theorem env_1 : ∀ w ∈ env1, w ∈ lw_tbl := mem_r [203, 29, 270, 272, 33, 69, 852, 102, 52, 93, 167, 71, 150, 44, 637] (by decide +kernel)
def nflat : List Cond := flatC (Jvm.Cond.and given_1 narrow_1)
theorem env_S0 : (nflat.drop 7).take 256 = (List.range 256).map (fun j => Cond.eq (.elem (.static RX0 "S" "[I") (.int (Int32.ofNat j))) (.int (nI (sB j)))) := by decide +kernel
theorem env_S (j : Nat) (hj : j < 256) : Cond.eq (.elem (.static RX0 "S" "[I") (.int (Int32.ofNat j))) (.int (nI (sB j))) ∈ nflat := List.mem_of_mem_drop (List.mem_of_mem_take (env_S0 ▸ List.mem_map.mpr ⟨j, List.mem_range.mpr hj, rfl⟩))
def nar1 : List Cond := [.arrayOf (.static RX0 "S" "[I") .int, .eq (.length (.static RX0 "S" "[I")) (.int 256), .isRef (.static Bundle.tN "UNASSIGNED_STACK" Bundle.steD), .isRef (.static Bundle.tN "SUPPRESSED_SENTINEL" Bundle.listD), .not (.castable "java/lang/UnsupportedOperationException" "java/lang/IllegalArgumentException"), .not (.castable "java/lang/IllegalArgumentException" "java/lang/IndexOutOfBoundsException"), .not (.castable "java/lang/IllegalStateException" "java/lang/IllegalArgumentException")]
def nar2 : List Cond := strL.map (fun q => Cond.exactly (.string RX7 q.1) "java/lang/String")
theorem env_n : ∀ w ∈ nar1, w ∈ nflat := mem_r [5, 6, 263, 264, 273, 295, 275] (by decide +kernel)
theorem env_m : ∀ w ∈ nar2, w ∈ nflat := mem_r [309, 328, 373, 411, 445, 481, 518, 548, 580, 619, 655, 701, 743, 774, 816] (by decide +kernel)
theorem gk_arr {s : State} {args : Array Value} {ty : FieldType} (h : (Cond.arrayClass ty).before args s = true) (hp : ∀ C, ty ≠ .object C) : ∃ cA : ClassId, ArrOfT s cA ty ∧ va_RA s cA ty := by
  obtain ⟨cA, kA, comp, h1, h2, h3⟩ := Cond.arrayClass_spec h
  refine ⟨cA, fun n z => ⟨fun k h => (by cases h), kA, h2, comp, h3⟩, ?_⟩
  cases ty with
  | object C => exact absurd rfl (hp C)
  | _ => exact h1
set_option maxHeartbeats 4000000 in
theorem env_of {p : Program} {s : State} {m : MethodId} {meth : Method} {c : Code} {b L : Nat} {xs : Nat → Int32} (C0 : lw_At p s m meth c b L xs) : ∃ (dC : Nat → ClassId) (dI : Nat → Nat → Nat) (cI cL : ClassId) (tS : Nat), va_K (dC, dI) vwCl [(cI, .int), (cL, .long)] s ∧ gF tS (fun q => s.heap.size ≤ q) s s.heap := by
  obtain ⟨-, -, -, -, -, hts, -, -, -, hgv⟩ := C0
  have hn : ∀ w ∈ nflat, w.before #[Value.ref b] s = true := flat_of_before _ hgv
  have h1 : ∀ w ∈ env1, w.before #[Value.ref b] s = true := fun w h => hts w (env_1 w h)
  obtain ⟨c0, i0, k0⟩ := u_known (C := RX0) (T := TX0) (N := 3) (n := 3) hts inw_wsX00 (h1 (.instantiable RX0 3) (by decide +kernel))
  obtain ⟨c1, i1, k1⟩ := u_known (C := RX1) (T := TX1) (N := 2) (n := 2) hts inw_wsX10 (h1 (.instantiable RX1 2) (by decide +kernel))
  obtain ⟨c2, i2, k2⟩ := u_known (C := RX2) (T := TX2) (N := 8) (n := 8) hts inw_wsX20 (h1 (.instantiable RX2 8) (by decide +kernel))
  obtain ⟨c3, i3, k3⟩ := u_known (C := RX3) (T := TX3) (N := 2) (n := 2) hts inw_wsX30 (h1 (.instantiable RX3 2) (by decide +kernel))
  obtain ⟨c4, i4, k4⟩ := u_known (C := RX4) (T := TX4) (N := 3) (n := 3) hts inw_wsX40 (h1 (.instantiable RX4 3) (by decide +kernel))
  obtain ⟨c5, i5, k5⟩ := u_known (C := RX5) (T := TX5) (N := 4) (n := 4) hts inw_wsX50 (h1 (.instantiable RX5 4) (by decide +kernel))
  obtain ⟨c6, i6, k6⟩ := u_known (C := RX7) (T := TX7) (N := 8) (n := 8) hts inw_wsX70 (h1 (.instantiable RX7 8) (by decide +kernel))
  obtain ⟨c7, i7, k7⟩ := u_known (C := RX8) (T := TX8) (N := 23) (n := 23) hts inw_wsX80 (h1 (.instantiable RX8 23) (by decide +kernel))
  obtain ⟨cI, aI, bI⟩ := gk_arr (h1 (.arrayClass .int) (by decide +kernel)) (fun C h => by cases h)
  obtain ⟨cL, aL, bL⟩ := gk_arr (h1 (.arrayClass .long) (by decide +kernel)) (fun C h => by cases h)
  have hA9 : ∀ a : Nat, a < s.heap.size → ¬ (fun q : Nat => s.heap.size ≤ q) a := fun a h q => absurd h (Nat.not_lt.mpr q)
  obtain ⟨tS, ht1, ht2⟩ := va_Tof (tm := .static RX0 "S" "[I") (ty := .int) (N := 256) (f := fun j => .int (nI (sB j))) (by decide) (hn _ (env_n (.arrayOf (.static RX0 "S" "[I") .int) (by decide +kernel))) (va_eqt (hn _ (env_n (.eq (.length (.static RX0 "S" "[I")) (.int 256)) (by decide +kernel)))) (fun j hj => va_eqt (hn _ (env_S j hj))) hA9
  refine ⟨fun k => match k with | 0 => c0 | 1 => c1 | 2 => c2 | 3 => c3 | 4 => c4 | 5 => c5 | 6 => c6 | _ => c7, fun k => match k with | 0 => i0 | 1 => i1 | 2 => i2 | 3 => i3 | 4 => i4 | 5 => i5 | 6 => i6 | _ => i7, cI, cL, tS, ⟨fun k q hq => ?_, fun k q hq => ?_⟩, ⟨fun w hw => va_Nw.of (env_nestT w hw) (hts w (env_nest w hw)), va_Zof (h1 (.laysStatic RX0 "S" "[I") (by decide +kernel)) (h1 (.initialized RX0) (by decide +kernel)) ht1 hA9, ht2⟩, fun w hw => va_Nw.of (env_castT w hw) (hts w (env_cast w hw)), fun q hq => ?_, vx_Zqof (h1 (.laysStatic Bundle.tN "UNASSIGNED_STACK" Bundle.steD) (by decide +kernel)) (h1 (.initialized Bundle.tN) (by decide +kernel)) (hn _ (env_n (.isRef (.static Bundle.tN "UNASSIGNED_STACK" Bundle.steD)) (by decide +kernel))) hA9, vx_Zqof (h1 (.laysStatic Bundle.tN "SUPPRESSED_SENTINEL" Bundle.listD) (by decide +kernel)) (h1 (.initialized Bundle.tN) (by decide +kernel)) (hn _ (env_n (.isRef (.static Bundle.tN "SUPPRESSED_SENTINEL" Bundle.listD)) (by decide +kernel))) hA9, va_Nc.of (hn _ (env_n (.not (.castable "java/lang/UnsupportedOperationException" "java/lang/IllegalArgumentException")) (by decide +kernel))), va_Nc.of (hn _ (env_n (.not (.castable "java/lang/IllegalArgumentException" "java/lang/IndexOutOfBoundsException")) (by decide +kernel))), va_Nc.of (hn _ (env_n (.not (.castable "java/lang/IllegalStateException" "java/lang/IllegalArgumentException")) (by decide +kernel)))⟩
  · match k, hq with
    | 0, hq => cases hq; exact k0
    | 1, hq => cases hq; exact k1
    | 2, hq => cases hq; exact k2
    | 3, hq => cases hq; exact k3
    | 4, hq => cases hq; exact k4
    | 5, hq => cases hq; exact k5
    | 6, hq => cases hq; exact k6
    | 7, hq => cases hq; exact k7
    | k + 8, hq => simp [vwCl] at hq
  · match k, hq with
    | 0, hq => cases hq; exact ⟨aI, bI⟩
    | 1, hq => cases hq; exact ⟨aL, bL⟩
    | k + 2, hq => simp at hq
  · obtain ⟨a, _, _, _, h2, -⟩ := Cond.exactly_spec (hn (.exactly (.string RX7 q.1) "java/lang/String") (env_m _ (List.mem_map.mpr ⟨q, hq, rfl⟩)))
    exact ⟨a, vk_R.of (hts _ (env_str _ (List.mem_map.mpr ⟨q, hq, rfl⟩))) h2⟩
theorem and15 (x : Int32) : ∃ c9, c9 < 16 ∧ x &&& nI 15 = nI c9 := ⟨x.toBitVec.toNat &&& 15, Nat.lt_of_le_of_lt Nat.and_le_right (by decide), (congrArg (fun z => z &&& nI 15) (nI_all x)).trans (gz_and _ _)⟩
theorem law_end {L i : Nat} (hL : L ≤ 2048) (hi : i ≤ L) (h : ¬ (nI L - nI 4 < nI i)) : i + 4 ≤ L := by
  rw [Int32.lt_iff_toInt_lt, pk_sub_toInt (by omega) (by decide), nI_toInt (by omega)] at h
  omega
section GNL
variable {p : Program} {l : Launch} {e : Env} {R : Room} {s : State} {m : MethodId} {args : Array Value} {below : List Frame} {meth : Method} {c : Code} {H : Heap} {locs : List Loc} {cells slots : Nat} {Q : State → Prop}
variable {cc : ByteArray} {pc : Nat} {ls : Array Slot} {rest : List Value} {D : va_G} {cl : List vw_C} {A : Nat → Prop} {ws : va_W} {H0 : Heap}
theorem gv_newl {cI cL : ClassId} (hexec : p.tables.exec = Jvm.exec) (hb : c.code = cc) (harr : (Cond.arrayClass .long).before args s = true) (hK : va_K D cl [(cI, .int), (cL, .long)] s) (hP : va_P D cl ws H) (hD : va_D A ws) (hS : va_S A H0 H locs) (hA : ∀ q, H0.size ≤ q → A q)
    {N : Nat} (hN : N < 1048576) (hcells : cells + 1 ≤ R.cells) (hslots : slots + N ≤ R.slots) (hdg : decode cc pc = .ok (.newarray .long, 2))
    (kk : ∀ (q : Nat) (H1 : Heap), va_P D cl (ws ++ [(q, .inl (cL, N, .inr (.inl (fun _ => 0))))]) H1 → va_D A (ws ++ [(q, .inl (cL, N, .inr (.inl (fun _ => 0))))]) → va_S A H0 H1 locs →
      W p l e R s m args below meth c H1 locs (cells + 1) (slots + N) Q (F0 m (pc + 2) ls (.ref q :: rest))) : W p l e R s m args below meth c H locs cells slots Q (F0 m pc ls (.int (nI N) :: rest)) := by
  refine va_newa (atype := .long) (a0 := (N, .inr (.inl (fun _ => 0)))) hexec hb harr (ty := .long) rfl hK hP hD hS hA (fun cA => rfl) (nI_pos (by omega)) (nI_clamp (by omega)) (by show N * 8 ≤ 536870912; omega) hcells hslots hdg (fun q cA H1 hK1 hP1 hD1 hS1 => ?_)
  have h1 : s.vm.findClass ("[" ++ FieldType.long.toString) = some cL := (hK.2 1 (cL, .long) rfl).2
  have h2 : s.vm.findClass ("[" ++ FieldType.long.toString) = some cA := (hK1.2 2 (cA, .long) rfl).2
  cases Option.some.inj (h1.symm.trans h2)
  exact kk q H1 hP1 hD1 hS1
end GNL
