set_option maxHeartbeats 4000000 in
set_option maxRecDepth 100000 in
/-- lay(numerals, n, size, turned) -/
theorem c_X8_lay (l : Launch) (dC : Nat → ClassId) (dI : Nat → Nat → Nat) (cI : ClassId) (sz : Nat) (mo : Nat) (abuf : Nat) (akey : Nat) (atwk : Nat) (arow : Nat) (abox : Nat) (awrd : Nat) (ablk : Nat) (amov : Nat) (ahA : Nat) (ahB : Nat) (ahC : Nat) (anum : Nat) (amsg : Nat) (astr : Nat) (th : Nat) (by_ : Nat) (ks : Nat) (ts : Nat) (rx : Nat) (mn : Nat) (rd : Nat) (za : Nat) (zb : Nat) (nu : Nat) (n : Nat) (size : Nat) (t : Nat) (d : Nat → Nat) (u0 : Nat → Nat) (hr1 : 2 ≤ rx) (hr2 : rx ≤ 65536) (hn : n ≤ 64) (hsz9 : size ≤ 128) (ht : t ≤ 1) (hd : ∀ q, q < n → d q < rx) : Met l yX8_lay wsX8_lay ({ frames := 0, cells := 0, slots := 0, locals := 0 }) (gPc dC dI cI [.ref mo, .ref nu, .int (nI n), .int (nI size), .int (nI t)] [(mo, .inr (7, [.int (nI th), .int (nI by_), .ref abuf, .int (nI ks), .ref akey, .int (nI ts), .ref atwk, .int (nI rx), .int (nI mn), .ref arow, .ref abox, .ref awrd, .int (nI rd), .ref ablk, .ref amov, .int (nI za), .int (nI zb), .ref ahA, .ref ahB, .ref ahC, .ref anum, .ref amsg, .ref astr])), (nu, .inl (cI, 64, .inl (gA d))), (anum, .inl (cI, 128, .inl (gA u0)))] sz) (va_Qv (fun u : (Nat → Nat) => (∀ q, q < size → u q = beB (dgv rx (fun q => d (plc t 0 n q)) 0 n) size q)) (fun u t => gB dC dI cI (va_A [(mo, .inr (7, [.int (nI th), .int (nI by_), .ref abuf, .int (nI ks), .ref akey, .int (nI ts), .ref atwk, .int (nI rx), .int (nI mn), .ref arow, .ref abox, .ref awrd, .int (nI rd), .ref ablk, .ref amov, .int (nI za), .int (nI zb), .ref ahA, .ref ahB, .ref ahC, .ref anum, .ref amsg, .ref astr])), (nu, .inl (cI, 64, .inl (gA d))), (anum, .inl (cI, 128, .inl (gA u0)))] sz) [(mo, .inr (7, [.int (nI th), .int (nI by_), .ref abuf, .int (nI ks), .ref akey, .int (nI ts), .ref atwk, .int (nI rx), .int (nI mn), .ref arow, .ref abox, .ref awrd, .int (nI rd), .ref ablk, .ref amov, .int (nI za), .int (nI zb), .ref ahA, .ref ahB, .ref ahC, .ref anum, .ref amsg, .ref astr])), (nu, .inl (cI, 64, .inl (gA d))), (anum, .inl (cI, 128, .inl (gA u)))] t) (va_A [(mo, .inr (7, [.int (nI th), .int (nI by_), .ref abuf, .int (nI ks), .ref akey, .int (nI ts), .ref atwk, .int (nI rx), .int (nI mn), .ref arow, .ref abox, .ref awrd, .int (nI rd), .ref ablk, .ref amov, .int (nI za), .int (nI zb), .ref ahA, .ref ahB, .ref ahC, .ref anum, .ref amsg, .ref astr])), (nu, .inl (cI, 64, .inl (gA d))), (anum, .inl (cI, 128, .inl (gA u0)))] sz)) 0 0 (va_A [(mo, .inr (7, [.int (nI th), .int (nI by_), .ref abuf, .int (nI ks), .ref akey, .int (nI ts), .ref atwk, .int (nI rx), .int (nI mn), .ref arow, .ref abox, .ref awrd, .int (nI rd), .ref ablk, .ref amov, .int (nI za), .int (nI zb), .ref ahA, .ref ahB, .ref ahC, .ref anum, .ref amsg, .ref astr])), (nu, .inl (cI, 64, .inl (gA d))), (anum, .inl (cI, 128, .inl (gA u0)))] sz) := by
  refine Met.ofW (cc := cX8_lay) (maxL := 10) (ret := none) (by decide) rfl ?_
  intro p e s m args below meth c s₁ B9 hml hv
  obtain ⟨rfl, hsz, ⟨hP, hK, hD0⟩⟩ := hv
  have hx := B9.exec
  have hb := B9.bytes
  have hr := B9.returns
  have hts := atoms_spec (ws := wsX8_lay) B9.pre
  have hown : s.vm.findClass RX8 = some m.cls := findClass_of_methodNamed B9.named
  have hlocks := B9.notSynchronized
  subst hsz
  have hD := hD0.self (sz := s.heap.size)
  generalize hAe : va_A [(mo, .inr (7, [.int (nI th), .int (nI by_), .ref abuf, .int (nI ks), .ref akey, .int (nI ts), .ref atwk, .int (nI rx), .int (nI mn), .ref arow, .ref abox, .ref awrd, .int (nI rd), .ref ablk, .ref amov, .int (nI za), .int (nI zb), .ref ahA, .ref ahB, .ref ahC, .ref anum, .ref amsg, .ref astr])), (nu, .inl (cI, 64, .inl (gA d))), (anum, .inl (cI, 128, .inl (gA u0)))] s.heap.size = A at hD ⊢
  have hA : ∀ q : Nat, s.heap.size ≤ q → A q := fun q h => by rw [← hAe]; exact Or.inr h
  have hS : va_S A s.heap s.heap [] := va_S.rf
  have hl := lv_entry ([.ref mo, .ref nu, .int (nI n), .int (nI size), .int (nI t)]) (n := 10) (Nat.le_of_ble_eq_true rfl)
  rw [lg_entry_eq]
  generalize (lg_sl ([.ref mo, .ref nu, .int (nI n), .int (nI size), .int (nI t)]) ++ List.replicate (10 - (lg_sl ([.ref mo, .ref nu, .int (nI n), .int (nI size), .int (nI t)])).length) Slot.unset).toArray = ls at hl ⊢
  have hl : lv_has ls 10 [(0, .ref mo), (1, .ref nu), (2, .int (nI n)), (3, .int (nI size)), (4, .int (nI t))] := hl
  refine lv_iconst (v := nI 0) hx hb dX8_lay_0 (by decide) ?_
  refine lv_istore (lv' := [(5, .int (nI 0)), (0, .ref mo), (1, .ref nu), (2, .int (nI n)), (3, .int (nI size)), (4, .int (nI t))]) hx hb dX8_lay_1 hl (by decide) rfl (fun ls hl => ?_)
  refine gw_lab (G := fun R args Q => ∀ (n9_3 : Nat) (i : Nat) (g : Nat → Nat), n9_3 = size - i → (i ≤ size) → (∀ q, q < 128 → g q = if q < i then 0 else u0 q) → ∀ (H : Heap) (locs : List Loc), va_P (dC, dI) vwCl [(mo, .inr (7, [.int (nI th), .int (nI by_), .ref abuf, .int (nI ks), .ref akey, .int (nI ts), .ref atwk, .int (nI rx), .int (nI mn), .ref arow, .ref abox, .ref awrd, .int (nI rd), .ref ablk, .ref amov, .int (nI za), .int (nI zb), .ref ahA, .ref ahB, .ref ahC, .ref anum, .ref amsg, .ref astr])), (nu, .inl (cI, 64, .inl (gA d))), (anum, .inl (cI, 128, .inl (gA g)))] H → va_D A [(mo, .inr (7, [.int (nI th), .int (nI by_), .ref abuf, .int (nI ks), .ref akey, .int (nI ts), .ref atwk, .int (nI rx), .int (nI mn), .ref arow, .ref abox, .ref awrd, .int (nI rd), .ref ablk, .ref amov, .int (nI za), .int (nI zb), .ref ahA, .ref ahB, .ref ahC, .ref anum, .ref amsg, .ref astr])), (nu, .inl (cI, 64, .inl (gA d))), (anum, .inl (cI, 128, .inl (gA g)))] → va_S A s.heap H locs → ∀ (ls : Array Slot), lv_has ls 10 [(5, .int (nI i)), (0, .ref mo), (1, .ref nu), (2, .int (nI n)), (3, .int (nI size)), (4, .int (nI t))] → W p l e R s m args below meth c H locs 0 0 Q (F0 m 3 ls [])) ?_ (fun L3 => ?_)
  ·
    intro n9_3
    induction n9_3 using Nat.strongRecOn with
    | ind n9_3 ih9_3 =>
      intro i g hmu9_3 hi hg H locs hP hD hS ls hl
      refine lv_iload hx hb dX8_lay_3 (lv_at hl 0 rfl) ?_
      refine lv_iload_n hx hb dX8_lay_5 rfl (lv_at hl 4 rfl) ?_
      refine gv_icmp_ge (tgt := 23) hx hb dX8_lay_6 (by decide) (by omega) (by omega) (fun c_6 => ?_) (fun c_6 => ?_)
      ·
        have e9 : i = size := by omega
        rw [e9] at hg
        refine lv_iconst (v := nI 0) hx hb dX8_lay_23 (by decide) ?_
        refine lv_istore (lv' := [(5, .int (nI 0)), (0, .ref mo), (1, .ref nu), (2, .int (nI n)), (3, .int (nI size)), (4, .int (nI t))]) hx hb dX8_lay_24 hl (by decide) rfl (fun ls hl => ?_)
        refine gw_lab (G := fun R args Q => ∀ (n9_26 : Nat) (k : Nat) (g : Nat → Nat), n9_26 = n - k → (k ≤ n) → (∀ q, q < size → g q = beB (dgv rx (fun q => d (plc t 0 n q)) (n - k) k) size q) → ∀ (H : Heap) (locs : List Loc), va_P (dC, dI) vwCl [(mo, .inr (7, [.int (nI th), .int (nI by_), .ref abuf, .int (nI ks), .ref akey, .int (nI ts), .ref atwk, .int (nI rx), .int (nI mn), .ref arow, .ref abox, .ref awrd, .int (nI rd), .ref ablk, .ref amov, .int (nI za), .int (nI zb), .ref ahA, .ref ahB, .ref ahC, .ref anum, .ref amsg, .ref astr])), (nu, .inl (cI, 64, .inl (gA d))), (anum, .inl (cI, 128, .inl (gA g)))] H → va_D A [(mo, .inr (7, [.int (nI th), .int (nI by_), .ref abuf, .int (nI ks), .ref akey, .int (nI ts), .ref atwk, .int (nI rx), .int (nI mn), .ref arow, .ref abox, .ref awrd, .int (nI rd), .ref ablk, .ref amov, .int (nI za), .int (nI zb), .ref ahA, .ref ahB, .ref ahC, .ref anum, .ref amsg, .ref astr])), (nu, .inl (cI, 64, .inl (gA d))), (anum, .inl (cI, 128, .inl (gA g)))] → va_S A s.heap H locs → ∀ (ls : Array Slot), lv_has ls 10 [(5, .int (nI k)), (0, .ref mo), (1, .ref nu), (2, .int (nI n)), (3, .int (nI size)), (4, .int (nI t))] → W p l e R s m args below meth c H locs 0 0 Q (F0 m 26 ls [])) ?_ (fun L26 => ?_)
        ·
          intro n9_26
          induction n9_26 using Nat.strongRecOn with
          | ind n9_26 ih9_26 =>
            intro k g hmu9_26 hk hg H locs hP hD hS ls hl
            refine lv_iload hx hb dX8_lay_26 (lv_at hl 0 rfl) ?_
            refine lv_iload_n hx hb dX8_lay_28 rfl (lv_at hl 3 rfl) ?_
            refine gv_icmp_ge (tgt := 116) hx hb dX8_lay_29 (by decide) (by omega) (by omega) (fun c_29 => ?_) (fun c_29 => ?_)
            ·
              have e9 : k = n := by omega
              rw [e9, Nat.sub_self] at hg
              exact W.vret hx hb hr (fun t ht hW => ⟨⟨(g), rfl, hg, gB_end ht hW hP hK hD⟩, hS.F ht⟩) hS.2.2 dX8_lay_116
            ·
              have hpl := plc_in (lf := t) (fr := 0) (ln := n) (k := n - (k + 1)) (by omega)
              have hdk : d (plc t 0 n (n - (k + 1))) < rx := hd _ (by omega)
              refine gw_lab (G := fun R args Q =>  ∀ (H : Heap) (locs : List Loc), va_P (dC, dI) vwCl [(mo, .inr (7, [.int (nI th), .int (nI by_), .ref abuf, .int (nI ks), .ref akey, .int (nI ts), .ref atwk, .int (nI rx), .int (nI mn), .ref arow, .ref abox, .ref awrd, .int (nI rd), .ref ablk, .ref amov, .int (nI za), .int (nI zb), .ref ahA, .ref ahB, .ref ahC, .ref anum, .ref amsg, .ref astr])), (nu, .inl (cI, 64, .inl (gA d))), (anum, .inl (cI, 128, .inl (gA g)))] H → va_D A [(mo, .inr (7, [.int (nI th), .int (nI by_), .ref abuf, .int (nI ks), .ref akey, .int (nI ts), .ref atwk, .int (nI rx), .int (nI mn), .ref arow, .ref abox, .ref awrd, .int (nI rd), .ref ablk, .ref amov, .int (nI za), .int (nI zb), .ref ahA, .ref ahB, .ref ahC, .ref anum, .ref amsg, .ref astr])), (nu, .inl (cI, 64, .inl (gA d))), (anum, .inl (cI, 128, .inl (gA g)))] → va_S A s.heap H locs → ∀ (ls : Array Slot), lv_has ls 10 [(5, .int (nI k)), (0, .ref mo), (1, .ref nu), (2, .int (nI n)), (3, .int (nI size)), (4, .int (nI t))] → W p l e R s m args below meth c H locs 0 0 Q (F0 m 49 ls [.int (nI (if t = 0 then k else n - 1 - k)), .ref nu])) ?_ (fun L49 => ?_)
              ·
                intro  H locs hP hD hS ls hl
                refine gv_iald hx hb hK hP 1 0 rfl rfl (by split <;> omega) (by omega) dX8_lay_49 ?_
                refine gv_top (y := nI (d (plc t 0 n (n - (k + 1))))) (congrArg nI (congrArg d (by unfold plc; split <;> omega))) ?_
                refine lv_istore (lv' := [(6, .int (nI (d (plc t 0 n (n - (k + 1)))))), (5, .int (nI k)), (0, .ref mo), (1, .ref nu), (2, .int (nI n)), (3, .int (nI size)), (4, .int (nI t))]) hx hb dX8_lay_50 hl (by decide) rfl (fun ls hl => ?_)
                refine lv_iload_n hx hb dX8_lay_52 rfl (lv_at hl 5 rfl) ?_
                refine lv_iconst (v := nI 1) hx hb dX8_lay_53 (by decide) ?_
                refine lv_isub hx hb dX8_lay_54 ?_
                refine gv_top (y := nI size - 1) rfl ?_
                refine lv_istore (lv' := [(7, .int (nI size - 1)), (6, .int (nI (d (plc t 0 n (n - (k + 1)))))), (5, .int (nI k)), (0, .ref mo), (1, .ref nu), (2, .int (nI n)), (3, .int (nI size)), (4, .int (nI t))]) hx hb dX8_lay_55 hl (by decide) rfl (fun ls hl => ?_)
                refine gw_lab (G := fun R args Q => ∀ (n9_57 : Nat) (j : Nat) (g2 : Nat → Nat) (cr : Nat), n9_57 = j → (j ≤ size) → (LayI (dgv rx (fun q => d (plc t 0 n q)) (n - k) k) rx (d (plc t 0 n (n - (k + 1)))) size g2 j cr) → ∀ (H : Heap) (locs : List Loc), va_P (dC, dI) vwCl [(mo, .inr (7, [.int (nI th), .int (nI by_), .ref abuf, .int (nI ks), .ref akey, .int (nI ts), .ref atwk, .int (nI rx), .int (nI mn), .ref arow, .ref abox, .ref awrd, .int (nI rd), .ref ablk, .ref amov, .int (nI za), .int (nI zb), .ref ahA, .ref ahB, .ref ahC, .ref anum, .ref amsg, .ref astr])), (nu, .inl (cI, 64, .inl (gA d))), (anum, .inl (cI, 128, .inl (gA g2)))] H → va_D A [(mo, .inr (7, [.int (nI th), .int (nI by_), .ref abuf, .int (nI ks), .ref akey, .int (nI ts), .ref atwk, .int (nI rx), .int (nI mn), .ref arow, .ref abox, .ref awrd, .int (nI rd), .ref ablk, .ref amov, .int (nI za), .int (nI zb), .ref ahA, .ref ahB, .ref ahC, .ref anum, .ref amsg, .ref astr])), (nu, .inl (cI, 64, .inl (gA d))), (anum, .inl (cI, 128, .inl (gA g2)))] → va_S A s.heap H locs → ∀ (ls : Array Slot), lv_has ls 10 [(7, .int (nI j - 1)), (6, .int (nI cr)), (5, .int (nI k)), (0, .ref mo), (1, .ref nu), (2, .int (nI n)), (3, .int (nI size)), (4, .int (nI t))] → W p l e R s m args below meth c H locs 0 0 Q (F0 m 57 ls [])) ?_ (fun L57 => ?_)
                ·
                  intro n9_57
                  induction n9_57 using Nat.strongRecOn with
                  | ind n9_57 ih9_57 =>
                    intro j g2 cr hmu9_57 hj hy H locs hP hD hS ls hl
                    rcases j with _ | j
                    ·
                      refine lv_iload hx hb dX8_lay_57 (lv_at hl 0 rfl) ?_
                      refine lv_if_lt (tgt := 110) hx hb dX8_lay_59 (by decide) (fun _ => ?_) (fun c9 => absurd (by decide) c9)
                      refine lv_iinc (v := nI (k + 1)) (lv' := [(5, .int (nI (k + 1))), (7, .int (nI 0 - 1)), (6, .int (nI cr)), (0, .ref mo), (1, .ref nu), (2, .int (nI n)), (3, .int (nI size)), (4, .int (nI t))]) hx hb dX8_lay_110 hl (k := 2) rfl (gz_inc1 _) (by decide) rfl (fun ls hl => ?_)
                      refine lv_goto (tgt := 26) hx hb dX8_lay_113 (by decide) ?_
                      exact ih9_26 _ (by omega) (k + 1) g2 rfl (by omega) (fun q hq => (hy.2.1 q (by omega) hq).trans (by rw [show n - k = n - (k + 1) + 1 by omega, ← dgv_low])) _ _ hP hD hS _ (lv_sub hl [0, 3, 4, 5, 6, 7] rfl)
                    ·
                      rw [nI_pred j] at hl
                      refine lv_iload hx hb dX8_lay_57 (lv_at hl 0 rfl) ?_
                      refine gv_if_lt (tgt := 110) hx hb dX8_lay_59 (by decide) (by omega) ?_
                      have hgj : g2 j < 256 := by rw [hy.1 j (by omega)]; exact beB_lt _ _ _
                      have hcr := hy.cr_lt hdk
                      have hbig : g2 j * rx ≤ 256 * 65536 := Nat.mul_le_mul (by omega) hr2
                      refine lv_aload_n hx hb dX8_lay_62 rfl (lv_at hl 3 rfl) ?_
                      refine gv_get (own := RX8) (D := (dC, dI)) (ci := 7) (C := RX8) (T := TX8) (N := 23) (v := .ref anum) hx hb hts (by decide +kernel) hown hK hP 0 rfl rfl 20 (by decide) (hts (.fieldLink RX8 50 "NumeralCipherModel" "number" "[I") (by decide +kernel)) rfl rfl dX8_lay_63 ?_
                      refine lv_iload hx hb dX8_lay_66 (lv_at hl 0 rfl) ?_
                      refine gv_iald hx hb hK hP 2 0 rfl rfl (by omega) (by omega) dX8_lay_68 ?_
                      refine lv_i2l (v := lN (g2 j)) hx hb dX8_lay_69 (nI_l (by omega)) ?_
                      refine lv_aload_n hx hb dX8_lay_70 rfl (lv_at hl 3 rfl) ?_
                      refine gv_get (own := RX8) (D := (dC, dI)) (ci := 7) (C := RX8) (T := TX8) (N := 23) (v := .int (nI rx)) hx hb hts (by decide +kernel) hown hK hP 0 rfl rfl 7 (by decide) (hts (.fieldLink RX8 23 "NumeralCipherModel" "radix" "I") (by decide +kernel)) rfl rfl dX8_lay_71 ?_
                      refine lv_i2l (v := lN rx) hx hb dX8_lay_74 (nI_l (by omega)) ?_
                      refine gl_lmul (r := (g2 j) * rx) hx hb dX8_lay_75 rfl ?_
                      refine lv_iload hx hb dX8_lay_76 (lv_at hl 1 rfl) ?_
                      refine lv_i2l (v := lN cr) hx hb dX8_lay_78 (nI_l (by omega)) ?_
                      refine gl_ladd (r := ((g2 j) * rx) + cr) hx hb dX8_lay_79 rfl ?_
                      refine lv_lstore (lv' := [(8, .long (lN (((g2 j) * rx) + cr))), (7, .int (nI j)), (6, .int (nI cr)), (5, .int (nI k)), (0, .ref mo), (1, .ref nu), (2, .int (nI n)), (3, .int (nI size)), (4, .int (nI t))]) hx hb dX8_lay_80 hl (by decide) rfl (fun ls hl => ?_)
                      refine lv_aload_n hx hb dX8_lay_82 rfl (lv_at hl 4 rfl) ?_
                      refine gv_get (own := RX8) (D := (dC, dI)) (ci := 7) (C := RX8) (T := TX8) (N := 23) (v := .ref anum) hx hb hts (by decide +kernel) hown hK hP 0 rfl rfl 20 (by decide) (hts (.fieldLink RX8 50 "NumeralCipherModel" "number" "[I") (by decide +kernel)) rfl rfl dX8_lay_83 ?_
                      refine lv_iload hx hb dX8_lay_86 (lv_at hl 1 rfl) ?_
                      refine lv_lload hx hb dX8_lay_88 (lv_at hl 0 rfl) ?_
                      refine lv_ldc2 (own := RX8) (v := (255 : Int64)) hx hb hown (hts (.constantLong RX8 77 (255)) (by decide +kernel)) dX8_lay_90 ?_
                      refine gv_topl (y := lN 255) (by decide +kernel) ?_
                      refine gl_land (r := (((g2 j) * rx) + cr) &&& 255) hx hb dX8_lay_93 rfl ?_
                      refine gv_topl (y := lN ((g2 j * rx + cr) % 256)) (congrArg lN (wz_255 _)) ?_
                      refine lv_l2i (v := nI ((g2 j * rx + cr) % 256)) hx hb dX8_lay_94 (lN_i _) ?_
                      refine gv_iast (ws' := [(mo, .inr (7, [.int (nI th), .int (nI by_), .ref abuf, .int (nI ks), .ref akey, .int (nI ts), .ref atwk, .int (nI rx), .int (nI mn), .ref arow, .ref abox, .ref awrd, .int (nI rd), .ref ablk, .ref amov, .int (nI za), .int (nI zb), .ref ahA, .ref ahB, .ref ahC, .ref anum, .ref amsg, .ref astr])), (nu, .inl (cI, 64, .inl (gA d))), (anum, .inl (cI, 128, .inl (gA (gU g2 j ((g2 j * rx + cr) % 256)))))]) hx hb hK hP hD hS 2 0 rfl rfl rfl (by omega) (by omega) dX8_lay_95 (fun H locs hP hD hS => ?_)
                      refine lv_lload hx hb dX8_lay_96 (lv_at hl 0 rfl) ?_
                      refine lv_bipush (v := nI 8) hx hb dX8_lay_98 (by decide) ?_
                      refine gl_lshr (r := (((g2 j) * rx) + cr) / 256) hx hb dX8_lay_100 (by omega) (by omega) rfl ?_
                      refine lv_l2i (v := nI ((((g2 j) * rx) + cr) / 256)) hx hb dX8_lay_101 (lN_i _) ?_
                      refine lv_istore (lv' := [(6, .int (nI ((((g2 j) * rx) + cr) / 256))), (8, .long (lN (((g2 j) * rx) + cr))), (7, .int (nI j)), (5, .int (nI k)), (0, .ref mo), (1, .ref nu), (2, .int (nI n)), (3, .int (nI size)), (4, .int (nI t))]) hx hb dX8_lay_102 hl (by decide) rfl (fun ls hl => ?_)
                      refine lv_iinc (v := nI j - 1) (lv' := [(7, .int (nI j - 1)), (6, .int (nI ((((g2 j) * rx) + cr) / 256))), (8, .long (lN (((g2 j) * rx) + cr))), (5, .int (nI k)), (0, .ref mo), (1, .ref nu), (2, .int (nI n)), (3, .int (nI size)), (4, .int (nI t))]) hx hb dX8_lay_104 hl (k := 2) rfl (gz_pred1 _) (by decide) rfl (fun ls hl => ?_)
                      refine lv_goto (tgt := 57) hx hb dX8_lay_107 (by decide) ?_
                      exact ih9_57 _ (by omega) j (gU g2 j ((g2 j * rx + cr) % 256)) ((g2 j * rx + cr) / 256) rfl (by omega) (hy.step (by omega)) _ _ hP hD hS _ (lv_sub hl [0, 1, 3, 4, 5, 6, 7, 8] rfl)
                exact L57 _ size g (d (plc t 0 n (n - (k + 1)))) rfl (by omega) (LayI.start hg) _ _ hP hD hS _ hl
              refine lv_aload_n hx hb dX8_lay_32 rfl (lv_at hl 2 rfl) ?_
              refine lv_iload hx hb dX8_lay_33 (lv_at hl 5 rfl) ?_
              refine gv_if_eq (tgt := 47) hx hb dX8_lay_35 (by decide) (by omega) (fun c_35 => ?_) (fun c_35 => ?_)
              ·
                refine lv_iload hx hb dX8_lay_47 (lv_at hl 0 rfl) ?_
                refine gv_top (y := nI (if t = 0 then k else n - 1 - k)) (congrArg nI (if_pos c_35).symm) ?_
                exact L49   _ _ hP hD hS _ hl
              ·
                refine lv_iload_n hx hb dX8_lay_38 rfl (lv_at hl 3 rfl) ?_
                refine lv_iconst (v := nI 1) hx hb dX8_lay_39 (by decide) ?_
                refine gv_isub (r := n - 1) hx hb dX8_lay_40 (by omega) ?_
                refine lv_iload hx hb dX8_lay_41 (lv_at hl 0 rfl) ?_
                refine gv_isub (r := (n - 1) - k) hx hb dX8_lay_43 (by omega) ?_
                refine gv_top (y := nI (if t = 0 then k else n - 1 - k)) (congrArg nI (if_neg c_35).symm) ?_
                refine lv_goto (tgt := 49) hx hb dX8_lay_44 (by decide) ?_
                exact L49   _ _ hP hD hS _ hl
        exact L26 _ 0 g rfl (by omega) (fun q hq => (fl_lo (N := fun _ => 0) hg (by omega) (by omega)).trans (by show 0 = 0 / _ % 256; rw [Nat.zero_div])) _ _ hP hD hS _ hl
      ·
        refine lv_aload_n hx hb dX8_lay_9 rfl (lv_at hl 1 rfl) ?_
        refine gv_get (own := RX8) (D := (dC, dI)) (ci := 7) (C := RX8) (T := TX8) (N := 23) (v := .ref anum) hx hb hts (by decide +kernel) hown hK hP 0 rfl rfl 20 (by decide) (hts (.fieldLink RX8 50 "NumeralCipherModel" "number" "[I") (by decide +kernel)) rfl rfl dX8_lay_10 ?_
        refine lv_iload hx hb dX8_lay_13 (lv_at hl 0 rfl) ?_
        refine lv_iconst (v := nI 0) hx hb dX8_lay_15 (by decide) ?_
        refine gv_iast (ws' := [(mo, .inr (7, [.int (nI th), .int (nI by_), .ref abuf, .int (nI ks), .ref akey, .int (nI ts), .ref atwk, .int (nI rx), .int (nI mn), .ref arow, .ref abox, .ref awrd, .int (nI rd), .ref ablk, .ref amov, .int (nI za), .int (nI zb), .ref ahA, .ref ahB, .ref ahC, .ref anum, .ref amsg, .ref astr])), (nu, .inl (cI, 64, .inl (gA d))), (anum, .inl (cI, 128, .inl (gA (gU g i 0))))]) hx hb hK hP hD hS 2 0 rfl rfl rfl (by omega) (by omega) dX8_lay_16 (fun H locs hP hD hS => ?_)
        refine lv_iinc (v := nI (i + 1)) (lv' := [(5, .int (nI (i + 1))), (0, .ref mo), (1, .ref nu), (2, .int (nI n)), (3, .int (nI size)), (4, .int (nI t))]) hx hb dX8_lay_17 hl (k := 0) rfl (gz_inc1 _) (by decide) rfl (fun ls hl => ?_)
        refine lv_goto (tgt := 3) hx hb dX8_lay_20 (by decide) ?_
        exact ih9_3 _ (by omega) (i + 1) (gU g i 0) rfl (by omega) (fl_s (N := fun _ => 0) hg rfl) _ _ hP hD hS _ hl
  exact L3 _ 0 u0 rfl (by omega) (fl_0 (N := fun _ => 0) (fun _ _ => rfl)) _ _ hP hD hS _ hl

set_option maxHeartbeats 4000000 in
set_option maxRecDepth 100000 in
/-- bytesOf(n) -/
theorem c_X8_bytesOf (l : Launch) (dC : Nat → ClassId) (dI : Nat → Nat → Nat) (cI : ClassId) (sz : Nat) (mo : Nat) (abuf : Nat) (akey : Nat) (atwk : Nat) (arow : Nat) (abox : Nat) (awrd : Nat) (ablk : Nat) (amov : Nat) (ahA : Nat) (ahB : Nat) (ahC : Nat) (anum : Nat) (amsg : Nat) (astr : Nat) (th : Nat) (by_ : Nat) (ks : Nat) (ts : Nat) (rx : Nat) (mn : Nat) (rd : Nat) (za : Nat) (zb : Nat) (nn : Nat) (c0 : Nat → Nat) (u0 : Nat → Nat) (hr1 : 2 ≤ rx) (hr2 : rx ≤ 65536) (hnn : nn ≤ 64) : Met l yX8_bytesOf wsX8_bytesOf ({ frames := 1, cells := 0, slots := 0, locals := 29 }) (gPc dC dI cI [.ref mo, .int (nI nn)] [(mo, .inr (7, [.int (nI th), .int (nI by_), .ref abuf, .int (nI ks), .ref akey, .int (nI ts), .ref atwk, .int (nI rx), .int (nI mn), .ref arow, .ref abox, .ref awrd, .int (nI rd), .ref ablk, .ref amov, .int (nI za), .int (nI zb), .ref ahA, .ref ahB, .ref ahC, .ref anum, .ref amsg, .ref astr])), (ahC, .inl (cI, 64, .inl (gA c0))), (anum, .inl (cI, 128, .inl (gA u0)))] sz) (va_Qi (fun (r : Int32) (u : (Nat → Nat) × (Nat → Nat)) => r = (nI (bl (rx ^ nn - 1)))) (fun u t => gB dC dI cI (va_A [(mo, .inr (7, [.int (nI th), .int (nI by_), .ref abuf, .int (nI ks), .ref akey, .int (nI ts), .ref atwk, .int (nI rx), .int (nI mn), .ref arow, .ref abox, .ref awrd, .int (nI rd), .ref ablk, .ref amov, .int (nI za), .int (nI zb), .ref ahA, .ref ahB, .ref ahC, .ref anum, .ref amsg, .ref astr])), (ahC, .inl (cI, 64, .inl (gA c0))), (anum, .inl (cI, 128, .inl (gA u0)))] sz) [(mo, .inr (7, [.int (nI th), .int (nI by_), .ref abuf, .int (nI ks), .ref akey, .int (nI ts), .ref atwk, .int (nI rx), .int (nI mn), .ref arow, .ref abox, .ref awrd, .int (nI rd), .ref ablk, .ref amov, .int (nI za), .int (nI zb), .ref ahA, .ref ahB, .ref ahC, .ref anum, .ref amsg, .ref astr])), (ahC, .inl (cI, 64, .inl (gA u.1))), (anum, .inl (cI, 128, .inl (gA u.2)))] t) (va_A [(mo, .inr (7, [.int (nI th), .int (nI by_), .ref abuf, .int (nI ks), .ref akey, .int (nI ts), .ref atwk, .int (nI rx), .int (nI mn), .ref arow, .ref abox, .ref awrd, .int (nI rd), .ref ablk, .ref amov, .int (nI za), .int (nI zb), .ref ahA, .ref ahB, .ref ahC, .ref anum, .ref amsg, .ref astr])), (ahC, .inl (cI, 64, .inl (gA c0))), (anum, .inl (cI, 128, .inl (gA u0)))] sz)) 0 0 (va_A [(mo, .inr (7, [.int (nI th), .int (nI by_), .ref abuf, .int (nI ks), .ref akey, .int (nI ts), .ref atwk, .int (nI rx), .int (nI mn), .ref arow, .ref abox, .ref awrd, .int (nI rd), .ref ablk, .ref amov, .int (nI za), .int (nI zb), .ref ahA, .ref ahB, .ref ahC, .ref anum, .ref amsg, .ref astr])), (ahC, .inl (cI, 64, .inl (gA c0))), (anum, .inl (cI, 128, .inl (gA u0)))] sz) := by
  refine Met.ofW (cc := cX8_bytesOf) (maxL := 3) (ret := (some .int)) (by decide) rfl ?_
  intro p e s m args below meth c s₁ B9 hml hv
  obtain ⟨rfl, hsz, ⟨hP, hK, hD0⟩⟩ := hv
  have hx := B9.exec
  have hb := B9.bytes
  have hr := B9.returns
  have hts := atoms_spec (ws := wsX8_bytesOf) B9.pre
  have hown : s.vm.findClass RX8 = some m.cls := findClass_of_methodNamed B9.named
  have hlocks := B9.notSynchronized
  subst hsz
  have hD := hD0.self (sz := s.heap.size)
  generalize hAe : va_A [(mo, .inr (7, [.int (nI th), .int (nI by_), .ref abuf, .int (nI ks), .ref akey, .int (nI ts), .ref atwk, .int (nI rx), .int (nI mn), .ref arow, .ref abox, .ref awrd, .int (nI rd), .ref ablk, .ref amov, .int (nI za), .int (nI zb), .ref ahA, .ref ahB, .ref ahC, .ref anum, .ref amsg, .ref astr])), (ahC, .inl (cI, 64, .inl (gA c0))), (anum, .inl (cI, 128, .inl (gA u0)))] s.heap.size = A at hD ⊢
  have hA : ∀ q : Nat, s.heap.size ≤ q → A q := fun q h => by rw [← hAe]; exact Or.inr h
  have hS : va_S A s.heap s.heap [] := va_S.rf
  have hl := lv_entry ([.ref mo, .int (nI nn)]) (n := 3) (Nat.le_of_ble_eq_true rfl)
  rw [lg_entry_eq]
  generalize (lg_sl ([.ref mo, .int (nI nn)]) ++ List.replicate (3 - (lg_sl ([.ref mo, .int (nI nn)])).length) Slot.unset).toArray = ls at hl ⊢
  have hl : lv_has ls 3 [(0, .ref mo), (1, .int (nI nn))] := hl
  refine lv_iconst (v := nI 0) hx hb dX8_bytesOf_0 (by decide) ?_
  refine lv_istore_n (lv' := [(2, .int (nI 0)), (0, .ref mo), (1, .int (nI nn))]) hx hb dX8_bytesOf_1 rfl hl (by decide) rfl (fun ls hl => ?_)
  refine gw_lab (G := fun R args Q => ∀ (n9_2 : Nat) (i : Nat) (g : Nat → Nat), n9_2 = nn - i → (i ≤ nn) → (∀ q, q < 64 → g q = if q < i then rx - 1 else c0 q) → ∀ (H : Heap) (locs : List Loc), va_P (dC, dI) vwCl [(mo, .inr (7, [.int (nI th), .int (nI by_), .ref abuf, .int (nI ks), .ref akey, .int (nI ts), .ref atwk, .int (nI rx), .int (nI mn), .ref arow, .ref abox, .ref awrd, .int (nI rd), .ref ablk, .ref amov, .int (nI za), .int (nI zb), .ref ahA, .ref ahB, .ref ahC, .ref anum, .ref amsg, .ref astr])), (ahC, .inl (cI, 64, .inl (gA g))), (anum, .inl (cI, 128, .inl (gA u0)))] H → va_D A [(mo, .inr (7, [.int (nI th), .int (nI by_), .ref abuf, .int (nI ks), .ref akey, .int (nI ts), .ref atwk, .int (nI rx), .int (nI mn), .ref arow, .ref abox, .ref awrd, .int (nI rd), .ref ablk, .ref amov, .int (nI za), .int (nI zb), .ref ahA, .ref ahB, .ref ahC, .ref anum, .ref amsg, .ref astr])), (ahC, .inl (cI, 64, .inl (gA g))), (anum, .inl (cI, 128, .inl (gA u0)))] → va_S A s.heap H locs → ∀ (ls : Array Slot), lv_has ls 3 [(2, .int (nI i)), (0, .ref mo), (1, .int (nI nn))] → W p l e R s m args below meth c H locs 0 0 Q (F0 m 2 ls [])) ?_ (fun L2 => ?_)
  ·
    intro n9_2
    induction n9_2 using Nat.strongRecOn with
    | ind n9_2 ih9_2 =>
      intro i g hmu9_2 hi hg H locs hP hD hS ls hl
      refine lv_iload_n hx hb dX8_bytesOf_2 rfl (lv_at hl 0 rfl) ?_
      refine lv_iload_n hx hb dX8_bytesOf_3 rfl (lv_at hl 2 rfl) ?_
      refine gv_icmp_ge (tgt := 25) hx hb dX8_bytesOf_4 (by decide) (by omega) (by omega) (fun c_4 => ?_) (fun c_4 => ?_)
      ·
        have e9 : i = nn := by omega
        rw [e9] at hg
        refine lv_aload_n hx hb dX8_bytesOf_25 rfl (lv_at hl 1 rfl) ?_
        refine lv_aload_n hx hb dX8_bytesOf_26 rfl (lv_at hl 1 rfl) ?_
        refine gv_get (own := RX8) (D := (dC, dI)) (ci := 7) (C := RX8) (T := TX8) (N := 23) (v := .ref ahC) hx hb hts (by decide +kernel) hown hK hP 0 rfl rfl 19 (by decide) (hts (.fieldLink RX8 47 "NumeralCipherModel" "halfC" "[I") (by decide +kernel)) rfl rfl dX8_bytesOf_27 ?_
        refine lv_iload_n hx hb dX8_bytesOf_30 rfl (lv_at hl 2 rfl) ?_
        refine lv_sipush (v := nI 128) hx hb dX8_bytesOf_31 (by decide) ?_
        refine lv_iconst (v := nI 0) hx hb dX8_bytesOf_34 (by decide) ?_
        have hPc := hP.sub (ws' := [(mo, .inr (7, [.int (nI th), .int (nI by_), .ref abuf, .int (nI ks), .ref akey, .int (nI ts), .ref atwk, .int (nI rx), .int (nI mn), .ref arow, .ref abox, .ref awrd, .int (nI rd), .ref ablk, .ref amov, .int (nI za), .int (nI zb), .ref ahA, .ref ahB, .ref ahC, .ref anum, .ref amsg, .ref astr])), (ahC, .inl (cI, 64, .inl (gA g))), (anum, .inl (cI, 128, .inl (gA u0)))]) [0, 1, 2] rfl
        have hDc := hD.sub (ws' := [(mo, .inr (7, [.int (nI th), .int (nI by_), .ref abuf, .int (nI ks), .ref akey, .int (nI ts), .ref atwk, .int (nI rx), .int (nI mn), .ref arow, .ref abox, .ref awrd, .int (nI rd), .ref ablk, .ref amov, .int (nI za), .int (nI zb), .ref ahA, .ref ahB, .ref ahC, .ref anum, .ref amsg, .ref astr])), (ahC, .inl (cI, 64, .inl (gA g))), (anum, .inl (cI, 128, .inl (gA u0)))]) [0, 1, 2] (by decide) rfl
        have hFc := va_free (wc := [(mo, .inr (7, [.int (nI th), .int (nI by_), .ref abuf, .int (nI ks), .ref akey, .int (nI ts), .ref atwk, .int (nI rx), .int (nI mn), .ref arow, .ref abox, .ref awrd, .int (nI rd), .ref ablk, .ref amov, .int (nI za), .int (nI zb), .ref ahA, .ref ahB, .ref ahC, .ref anum, .ref amsg, .ref astr])), (ahC, .inl (cI, 64, .inl (gA g))), (anum, .inl (cI, 128, .inl (gA u0)))]) hD hS hA [0, 1, 2] rfl
        refine va_callv (va_runV (As := [.ref ahC, .int (nI nn), .int (nI 128), .int (nI 0)]) (rest := []) ⟨hx, hb, hml, hown, hts⟩ (c_X8_lay l dC dI cI H.size mo abuf akey atwk arow abox awrd ablk amov ahA ahB ahC anum amsg astr th by_ ks ts rx mn rd za zb ahC nn 128 0 g u0 (by omega) (by omega) hnn (by omega) (by omega) (fun q hq => by rw [fl_lo (N := fun _ => rx - 1) hg (by omega) hq]; omega)) (cwV 4 hts gX8_bytesOf_X8_lay rfl rfl rfl (by decide +kernel) ⟨Nat.le_of_ble_eq_true rfl, Nat.le_of_ble_eq_true rfl⟩) ⟨gPc_blind, va_recv hK hPc (ci := 7) (q0 := 0) rfl rfl, gPc_pre hPc hK hDc⟩ rfl rfl hl.1 rfl (lv_room (Nat.le_of_ble_eq_true rfl)) dX8_bytesOf_35 ⟨Nat.zero_le _, Nat.zero_le _⟩) hS (fun q _ h => hFc q h) hFc (fun u8 t8 H1 locs ht hvm hw hB hz1 hk1 hS => ?_)
        obtain ⟨u9_1, rfl⟩ : ∃ z, z = u8 := ⟨_, rfl⟩
        try dsimp only at hw hB
        obtain ⟨hP, hD⟩ := gB_join (wr := []) (w2 := [(mo, .inr (7, [.int (nI th), .int (nI by_), .ref abuf, .int (nI ks), .ref akey, .int (nI ts), .ref atwk, .int (nI rx), .int (nI mn), .ref arow, .ref abox, .ref awrd, .int (nI rd), .ref ablk, .ref amov, .int (nI za), .int (nI zb), .ref ahA, .ref ahB, .ref ahC, .ref anum, .ref amsg, .ref astr])), (ahC, .inl (cI, 64, .inl (gA g))), (anum, .inl (cI, 128, .inl (gA u9_1)))]) hP hD [0, 1, 2] [] rfl rfl (by decide) (by decide) hk1 hFc ht hB rfl
        clear hk1 hz1 ht hB hvm hPc hDc hFc
        generalize H1 = H at hP hS ⊢
        have hu := hw
        have hVe : dgv rx (fun q => g (plc 0 0 nn q)) 0 nn = rx ^ nn - 1 := dgv_max (by omega) (fun q h1 h2 => by have hp := plc_in (lf := 0) (fr := 0) (ln := nn) (k := q) (by omega); exact fl_lo (N := fun _ => rx - 1) hg (by omega) (by omega))
        rw [hVe] at hu
        have hV : rx ^ nn - 1 < 256 ^ 128 := pow_256 (by omega) hr2 hnn
        refine lv_iconst (v := nI 0) hx hb dX8_bytesOf_38 (by decide) ?_
        refine lv_istore_n (lv' := [(2, .int (nI 0)), (0, .ref mo), (1, .int (nI nn))]) hx hb dX8_bytesOf_39 rfl hl (by decide) rfl (fun ls hl => ?_)
        refine gw_lab (G := fun R args Q => ∀ (n9_40 : Nat) (z : Nat), n9_40 = 128 - z → (z ≤ 128) → (∀ q, q < z → beB (rx ^ nn - 1) 128 q = 0) → ∀ (H : Heap) (locs : List Loc), va_P (dC, dI) vwCl [(mo, .inr (7, [.int (nI th), .int (nI by_), .ref abuf, .int (nI ks), .ref akey, .int (nI ts), .ref atwk, .int (nI rx), .int (nI mn), .ref arow, .ref abox, .ref awrd, .int (nI rd), .ref ablk, .ref amov, .int (nI za), .int (nI zb), .ref ahA, .ref ahB, .ref ahC, .ref anum, .ref amsg, .ref astr])), (ahC, .inl (cI, 64, .inl (gA g))), (anum, .inl (cI, 128, .inl (gA u9_1)))] H → va_D A [(mo, .inr (7, [.int (nI th), .int (nI by_), .ref abuf, .int (nI ks), .ref akey, .int (nI ts), .ref atwk, .int (nI rx), .int (nI mn), .ref arow, .ref abox, .ref awrd, .int (nI rd), .ref ablk, .ref amov, .int (nI za), .int (nI zb), .ref ahA, .ref ahB, .ref ahC, .ref anum, .ref amsg, .ref astr])), (ahC, .inl (cI, 64, .inl (gA g))), (anum, .inl (cI, 128, .inl (gA u9_1)))] → va_S A s.heap H locs → ∀ (ls : Array Slot), lv_has ls 3 [(2, .int (nI z)), (0, .ref mo), (1, .int (nI nn))] → W p l e R s m args below meth c H locs 0 0 Q (F0 m 40 ls [])) ?_ (fun L40 => ?_)
        ·
          intro n9_40
          induction n9_40 using Nat.strongRecOn with
          | ind n9_40 ih9_40 =>
            intro z hmu9_40 hz hzz H locs hP hD hS ls hl
            refine lv_iload_n hx hb dX8_bytesOf_40 rfl (lv_at hl 0 rfl) ?_
            refine lv_sipush (v := nI 128) hx hb dX8_bytesOf_41 (by decide) ?_
            refine gv_icmp_ge (tgt := 62) hx hb dX8_bytesOf_44 (by decide) (by omega) (by omega) (fun c_44 => ?_) (fun c_44 => ?_)
            ·
              have hfin : 128 - z = bl (rx ^ nn - 1) := be_bl hV hz hzz (Or.inl (by omega))
              refine lv_sipush (v := nI 128) hx hb dX8_bytesOf_62 (by decide) ?_
              refine lv_iload_n hx hb dX8_bytesOf_65 rfl (lv_at hl 0 rfl) ?_
              refine gv_isub (r := 128 - z) hx hb dX8_bytesOf_66 (by omega) ?_
              refine gv_top (y := (nI (bl (rx ^ nn - 1)))) (congrArg nI hfin) ?_
              exact W.iret (v := (nI (bl (rx ^ nn - 1)))) hx hb hr (fun t ht hW => ⟨⟨_, (g, u9_1), rfl, rfl, gB_end ht hW hP hK hD⟩, hS.F ht⟩) hS.2.2 dX8_bytesOf_67
            ·
              refine lv_aload_n hx hb dX8_bytesOf_47 rfl (lv_at hl 1 rfl) ?_
              refine gv_get (own := RX8) (D := (dC, dI)) (ci := 7) (C := RX8) (T := TX8) (N := 23) (v := .ref anum) hx hb hts (by decide +kernel) hown hK hP 0 rfl rfl 20 (by decide) (hts (.fieldLink RX8 50 "NumeralCipherModel" "number" "[I") (by decide +kernel)) rfl rfl dX8_bytesOf_48 ?_
              refine lv_iload_n hx hb dX8_bytesOf_51 rfl (lv_at hl 0 rfl) ?_
              refine gv_iald hx hb hK hP 2 0 rfl rfl (by omega) (by omega) dX8_bytesOf_52 ?_
              refine gv_top (y := nI (beB (rx ^ nn - 1) 128 z)) (congrArg nI (hu z c_44)) ?_
              have hbl := beB_lt (rx ^ nn - 1) 128 z
              refine gv_if_ne (tgt := 62) hx hb dX8_bytesOf_53 (by decide) (by omega) (fun c_53 => ?_) (fun c_53 => ?_)
              ·
                have hfin : 128 - z = bl (rx ^ nn - 1) := be_bl hV hz hzz (Or.inr c_53)
                refine lv_sipush (v := nI 128) hx hb dX8_bytesOf_62 (by decide) ?_
                refine lv_iload_n hx hb dX8_bytesOf_65 rfl (lv_at hl 0 rfl) ?_
                refine gv_isub (r := 128 - z) hx hb dX8_bytesOf_66 (by omega) ?_
                refine gv_top (y := (nI (bl (rx ^ nn - 1)))) (congrArg nI hfin) ?_
                exact W.iret (v := (nI (bl (rx ^ nn - 1)))) hx hb hr (fun t ht hW => ⟨⟨_, (g, u9_1), rfl, rfl, gB_end ht hW hP hK hD⟩, hS.F ht⟩) hS.2.2 dX8_bytesOf_67
              ·
                refine lv_iinc (v := nI (z + 1)) (lv' := [(2, .int (nI (z + 1))), (0, .ref mo), (1, .int (nI nn))]) hx hb dX8_bytesOf_56 hl (k := 0) rfl (gz_inc1 _) (by decide) rfl (fun ls hl => ?_)
                refine lv_goto (tgt := 40) hx hb dX8_bytesOf_59 (by decide) ?_
                exact ih9_40 _ (by omega) (z + 1) rfl (by omega) (fun q hq => by rcases Nat.lt_or_eq_of_le (Nat.le_of_lt_succ hq) with h9 | h9; exact hzz q h9; rw [h9]; exact c_53) _ _ hP hD hS _ hl
        exact L40 _ 0 rfl (by omega) (fun q hq => absurd hq (Nat.not_lt_zero q)) _ _ hP hD hS _ hl
      ·
        refine lv_aload_n hx hb dX8_bytesOf_7 rfl (lv_at hl 1 rfl) ?_
        refine gv_get (own := RX8) (D := (dC, dI)) (ci := 7) (C := RX8) (T := TX8) (N := 23) (v := .ref ahC) hx hb hts (by decide +kernel) hown hK hP 0 rfl rfl 19 (by decide) (hts (.fieldLink RX8 47 "NumeralCipherModel" "halfC" "[I") (by decide +kernel)) rfl rfl dX8_bytesOf_8 ?_
        refine lv_iload_n hx hb dX8_bytesOf_11 rfl (lv_at hl 0 rfl) ?_
        refine lv_aload_n hx hb dX8_bytesOf_12 rfl (lv_at hl 1 rfl) ?_
        refine gv_get (own := RX8) (D := (dC, dI)) (ci := 7) (C := RX8) (T := TX8) (N := 23) (v := .int (nI rx)) hx hb hts (by decide +kernel) hown hK hP 0 rfl rfl 7 (by decide) (hts (.fieldLink RX8 23 "NumeralCipherModel" "radix" "I") (by decide +kernel)) rfl rfl dX8_bytesOf_13 ?_
        refine lv_iconst (v := nI 1) hx hb dX8_bytesOf_16 (by decide) ?_
        refine gv_isub (r := rx - 1) hx hb dX8_bytesOf_17 (by omega) ?_
        refine gv_iast (ws' := [(mo, .inr (7, [.int (nI th), .int (nI by_), .ref abuf, .int (nI ks), .ref akey, .int (nI ts), .ref atwk, .int (nI rx), .int (nI mn), .ref arow, .ref abox, .ref awrd, .int (nI rd), .ref ablk, .ref amov, .int (nI za), .int (nI zb), .ref ahA, .ref ahB, .ref ahC, .ref anum, .ref amsg, .ref astr])), (ahC, .inl (cI, 64, .inl (gA (gU g i (rx - 1))))), (anum, .inl (cI, 128, .inl (gA u0)))]) hx hb hK hP hD hS 1 0 rfl rfl rfl (by omega) (by omega) dX8_bytesOf_18 (fun H locs hP hD hS => ?_)
        refine lv_iinc (v := nI (i + 1)) (lv' := [(2, .int (nI (i + 1))), (0, .ref mo), (1, .int (nI nn))]) hx hb dX8_bytesOf_19 hl (k := 0) rfl (gz_inc1 _) (by decide) rfl (fun ls hl => ?_)
        refine lv_goto (tgt := 2) hx hb dX8_bytesOf_22 (by decide) ?_
        exact ih9_2 _ (by omega) (i + 1) (gU g i (rx - 1)) rfl (by omega) (fl_s (N := fun _ => rx - 1) hg rfl) _ _ hP hD hS _ hl
  exact L2 _ 0 c0 rfl (by omega) (fl_0 (N := fun _ => rx - 1) (fun _ _ => rfl)) _ _ hP hD hS _ hl

set_option maxHeartbeats 4000000 in
set_option maxRecDepth 100000 in
/-- takeNumeral(size) -/
theorem c_X8_takeNumeral (l : Launch) (dC : Nat → ClassId) (dI : Nat → Nat → Nat) (cI : ClassId) (sz : Nat) (mo : Nat) (abuf : Nat) (akey : Nat) (atwk : Nat) (arow : Nat) (abox : Nat) (awrd : Nat) (ablk : Nat) (amov : Nat) (ahA : Nat) (ahB : Nat) (ahC : Nat) (anum : Nat) (amsg : Nat) (astr : Nat) (th : Nat) (by_ : Nat) (ks : Nat) (ts : Nat) (rx : Nat) (mn : Nat) (rd : Nat) (za : Nat) (zb : Nat) (size : Nat) (Y : Nat) (s0 : Nat → Nat) (hr1 : 2 ≤ rx) (hr2 : rx ≤ 65536) (hsz9 : size ≤ 128) (hY : Y < 256 ^ size) (hs : ∀ q, q < size → s0 q = beB Y size q) : Met l yX8_takeNumeral wsX8_takeNumeral ({ frames := 0, cells := 0, slots := 0, locals := 0 }) (gPc dC dI cI [.ref mo, .int (nI size)] [(mo, .inr (7, [.int (nI th), .int (nI by_), .ref abuf, .int (nI ks), .ref akey, .int (nI ts), .ref atwk, .int (nI rx), .int (nI mn), .ref arow, .ref abox, .ref awrd, .int (nI rd), .ref ablk, .ref amov, .int (nI za), .int (nI zb), .ref ahA, .ref ahB, .ref ahC, .ref anum, .ref amsg, .ref astr])), (astr, .inl (cI, 128, .inl (gA s0)))] sz) (va_Qi (fun (r : Int32) (u : (Nat → Nat)) => r = (nI (Y % rx)) ∧ (∀ q, q < size → u q = beB (Y / rx) size q)) (fun u t => gB dC dI cI (va_A [(mo, .inr (7, [.int (nI th), .int (nI by_), .ref abuf, .int (nI ks), .ref akey, .int (nI ts), .ref atwk, .int (nI rx), .int (nI mn), .ref arow, .ref abox, .ref awrd, .int (nI rd), .ref ablk, .ref amov, .int (nI za), .int (nI zb), .ref ahA, .ref ahB, .ref ahC, .ref anum, .ref amsg, .ref astr])), (astr, .inl (cI, 128, .inl (gA s0)))] sz) [(mo, .inr (7, [.int (nI th), .int (nI by_), .ref abuf, .int (nI ks), .ref akey, .int (nI ts), .ref atwk, .int (nI rx), .int (nI mn), .ref arow, .ref abox, .ref awrd, .int (nI rd), .ref ablk, .ref amov, .int (nI za), .int (nI zb), .ref ahA, .ref ahB, .ref ahC, .ref anum, .ref amsg, .ref astr])), (astr, .inl (cI, 128, .inl (gA u)))] t) (va_A [(mo, .inr (7, [.int (nI th), .int (nI by_), .ref abuf, .int (nI ks), .ref akey, .int (nI ts), .ref atwk, .int (nI rx), .int (nI mn), .ref arow, .ref abox, .ref awrd, .int (nI rd), .ref ablk, .ref amov, .int (nI za), .int (nI zb), .ref ahA, .ref ahB, .ref ahC, .ref anum, .ref amsg, .ref astr])), (astr, .inl (cI, 128, .inl (gA s0)))] sz)) 0 0 (va_A [(mo, .inr (7, [.int (nI th), .int (nI by_), .ref abuf, .int (nI ks), .ref akey, .int (nI ts), .ref atwk, .int (nI rx), .int (nI mn), .ref arow, .ref abox, .ref awrd, .int (nI rd), .ref ablk, .ref amov, .int (nI za), .int (nI zb), .ref ahA, .ref ahB, .ref ahC, .ref anum, .ref amsg, .ref astr])), (astr, .inl (cI, 128, .inl (gA s0)))] sz) := by
  refine Met.ofW (cc := cX8_takeNumeral) (maxL := 7) (ret := (some .int)) (by decide) rfl ?_
  intro p e s m args below meth c s₁ B9 hml hv
  obtain ⟨rfl, hsz, ⟨hP, hK, hD0⟩⟩ := hv
  have hx := B9.exec
  have hb := B9.bytes
  have hr := B9.returns
  have hts := atoms_spec (ws := wsX8_takeNumeral) B9.pre
  have hown : s.vm.findClass RX8 = some m.cls := findClass_of_methodNamed B9.named
  have hlocks := B9.notSynchronized
  subst hsz
  have hD := hD0.self (sz := s.heap.size)
  generalize hAe : va_A [(mo, .inr (7, [.int (nI th), .int (nI by_), .ref abuf, .int (nI ks), .ref akey, .int (nI ts), .ref atwk, .int (nI rx), .int (nI mn), .ref arow, .ref abox, .ref awrd, .int (nI rd), .ref ablk, .ref amov, .int (nI za), .int (nI zb), .ref ahA, .ref ahB, .ref ahC, .ref anum, .ref amsg, .ref astr])), (astr, .inl (cI, 128, .inl (gA s0)))] s.heap.size = A at hD ⊢
  have hA : ∀ q : Nat, s.heap.size ≤ q → A q := fun q h => by rw [← hAe]; exact Or.inr h
  have hS : va_S A s.heap s.heap [] := va_S.rf
  have hl := lv_entry ([.ref mo, .int (nI size)]) (n := 7) (Nat.le_of_ble_eq_true rfl)
  rw [lg_entry_eq]
  generalize (lg_sl ([.ref mo, .int (nI size)]) ++ List.replicate (7 - (lg_sl ([.ref mo, .int (nI size)])).length) Slot.unset).toArray = ls at hl ⊢
  have hl : lv_has ls 7 [(0, .ref mo), (1, .int (nI size))] := hl
  refine lv_lconst (v := lN 0) hx hb dX8_takeNumeral_0 (by decide) ?_
  refine lv_lstore_n (lv' := [(2, .long (lN 0)), (0, .ref mo), (1, .int (nI size))]) hx hb dX8_takeNumeral_1 rfl hl (by decide) rfl (fun ls hl => ?_)
  refine lv_iconst (v := nI 0) hx hb dX8_takeNumeral_2 (by decide) ?_
  refine lv_istore (lv' := [(4, .int (nI 0)), (2, .long (lN 0)), (0, .ref mo), (1, .int (nI size))]) hx hb dX8_takeNumeral_3 hl (by decide) rfl (fun ls hl => ?_)
  refine gw_lab (G := fun R args Q => ∀ (n9_5 : Nat) (i : Nat) (g : Nat → Nat) (lt : Nat), n9_5 = size - i → (i ≤ size) → (TkI Y rx size g i lt) → ∀ (H : Heap) (locs : List Loc), va_P (dC, dI) vwCl [(mo, .inr (7, [.int (nI th), .int (nI by_), .ref abuf, .int (nI ks), .ref akey, .int (nI ts), .ref atwk, .int (nI rx), .int (nI mn), .ref arow, .ref abox, .ref awrd, .int (nI rd), .ref ablk, .ref amov, .int (nI za), .int (nI zb), .ref ahA, .ref ahB, .ref ahC, .ref anum, .ref amsg, .ref astr])), (astr, .inl (cI, 128, .inl (gA g)))] H → va_D A [(mo, .inr (7, [.int (nI th), .int (nI by_), .ref abuf, .int (nI ks), .ref akey, .int (nI ts), .ref atwk, .int (nI rx), .int (nI mn), .ref arow, .ref abox, .ref awrd, .int (nI rd), .ref ablk, .ref amov, .int (nI za), .int (nI zb), .ref ahA, .ref ahB, .ref ahC, .ref anum, .ref amsg, .ref astr])), (astr, .inl (cI, 128, .inl (gA g)))] → va_S A s.heap H locs → ∀ (ls : Array Slot), lv_has ls 7 [(4, .int (nI i)), (2, .long (lN lt)), (0, .ref mo), (1, .int (nI size))] → W p l e R s m args below meth c H locs 0 0 Q (F0 m 5 ls [])) ?_ (fun L5 => ?_)
  ·
    intro n9_5
    induction n9_5 using Nat.strongRecOn with
    | ind n9_5 ih9_5 =>
      intro i g lt hmu9_5 hi hk H locs hP hD hS ls hl
      refine lv_iload hx hb dX8_takeNumeral_5 (lv_at hl 0 rfl) ?_
      refine lv_iload_n hx hb dX8_takeNumeral_7 rfl (lv_at hl 3 rfl) ?_
      refine gv_icmp_ge (tgt := 57) hx hb dX8_takeNumeral_8 (by decide) (by omega) (by omega) (fun c_8 => ?_) (fun c_8 => ?_)
      ·
        have e9 : i = size := by omega
        rw [e9] at hk
        obtain ⟨hdn, hrm⟩ := hk.done
        refine lv_lload_n hx hb dX8_takeNumeral_57 rfl (lv_at hl 1 rfl) ?_
        refine lv_l2i (v := nI lt) hx hb dX8_takeNumeral_58 (lN_i _) ?_
        refine gv_top (y := (nI (Y % rx))) (congrArg nI hrm) ?_
        exact W.iret (v := (nI (Y % rx))) hx hb hr (fun t ht hW => ⟨⟨_, (g), rfl, ⟨rfl, hdn⟩, gB_end ht hW hP hK hD⟩, hS.F ht⟩) hS.2.2 dX8_takeNumeral_59
      ·
        have hgi : g i < 256 := by rw [hk.2.1 i (Nat.le_refl i) c_8]; exact beB_lt _ _ _
        have hltr := hk.lt_lt (show 0 < rx by omega)
        refine lv_lload_n hx hb dX8_takeNumeral_11 rfl (lv_at hl 1 rfl) ?_
        refine lv_bipush (v := nI 8) hx hb dX8_takeNumeral_12 (by decide) ?_
        refine gl_lshl (r := lt * 256) hx hb dX8_takeNumeral_14 (by omega) rfl ?_
        refine lv_aload_n hx hb dX8_takeNumeral_15 rfl (lv_at hl 2 rfl) ?_
        refine gv_get (own := RX8) (D := (dC, dI)) (ci := 7) (C := RX8) (T := TX8) (N := 23) (v := .ref astr) hx hb hts (by decide +kernel) hown hK hP 0 rfl rfl 22 (by decide) (hts (.fieldLink RX8 56 "NumeralCipherModel" "stream" "[I") (by decide +kernel)) rfl rfl dX8_takeNumeral_16 ?_
        refine lv_iload hx hb dX8_takeNumeral_19 (lv_at hl 0 rfl) ?_
        refine gv_iald hx hb hK hP 1 0 rfl rfl (by omega) (by omega) dX8_takeNumeral_21 ?_
        refine lv_i2l (v := lN (g i)) hx hb dX8_takeNumeral_22 (nI_l (by omega)) ?_
        refine gl_lor (r := lt * 256 + g i) hx hb dX8_takeNumeral_23 (lor8 hgi) ?_
        refine lv_lstore (lv' := [(5, .long (lN (lt * 256 + g i))), (4, .int (nI i)), (2, .long (lN lt)), (0, .ref mo), (1, .int (nI size))]) hx hb dX8_takeNumeral_24 hl (by decide) rfl (fun ls hl => ?_)
        refine lv_aload_n hx hb dX8_takeNumeral_26 rfl (lv_at hl 3 rfl) ?_
        refine gv_get (own := RX8) (D := (dC, dI)) (ci := 7) (C := RX8) (T := TX8) (N := 23) (v := .ref astr) hx hb hts (by decide +kernel) hown hK hP 0 rfl rfl 22 (by decide) (hts (.fieldLink RX8 56 "NumeralCipherModel" "stream" "[I") (by decide +kernel)) rfl rfl dX8_takeNumeral_27 ?_
        refine lv_iload hx hb dX8_takeNumeral_30 (lv_at hl 1 rfl) ?_
        refine lv_lload hx hb dX8_takeNumeral_32 (lv_at hl 0 rfl) ?_
        refine lv_aload_n hx hb dX8_takeNumeral_34 rfl (lv_at hl 3 rfl) ?_
        refine gv_get (own := RX8) (D := (dC, dI)) (ci := 7) (C := RX8) (T := TX8) (N := 23) (v := .int (nI rx)) hx hb hts (by decide +kernel) hown hK hP 0 rfl rfl 7 (by decide) (hts (.fieldLink RX8 23 "NumeralCipherModel" "radix" "I") (by decide +kernel)) rfl rfl dX8_takeNumeral_35 ?_
        refine lv_i2l (v := lN rx) hx hb dX8_takeNumeral_38 (nI_l (by omega)) ?_
        refine gl_ldiv (r := (lt * 256 + g i) / rx) hx hb dX8_takeNumeral_39 (by omega) (by omega) (by omega) rfl ?_
        refine lv_l2i (v := nI ((lt * 256 + g i) / rx)) hx hb dX8_takeNumeral_40 (lN_i _) ?_
        refine gv_iast (ws' := [(mo, .inr (7, [.int (nI th), .int (nI by_), .ref abuf, .int (nI ks), .ref akey, .int (nI ts), .ref atwk, .int (nI rx), .int (nI mn), .ref arow, .ref abox, .ref awrd, .int (nI rd), .ref ablk, .ref amov, .int (nI za), .int (nI zb), .ref ahA, .ref ahB, .ref ahC, .ref anum, .ref amsg, .ref astr])), (astr, .inl (cI, 128, .inl (gA (gU g i ((lt * 256 + g i) / rx)))))]) hx hb hK hP hD hS 1 0 rfl rfl rfl (by omega) (by omega) dX8_takeNumeral_41 (fun H locs hP hD hS => ?_)
        refine lv_lload hx hb dX8_takeNumeral_42 (lv_at hl 0 rfl) ?_
        refine lv_aload_n hx hb dX8_takeNumeral_44 rfl (lv_at hl 3 rfl) ?_
        refine gv_get (own := RX8) (D := (dC, dI)) (ci := 7) (C := RX8) (T := TX8) (N := 23) (v := .int (nI rx)) hx hb hts (by decide +kernel) hown hK hP 0 rfl rfl 7 (by decide) (hts (.fieldLink RX8 23 "NumeralCipherModel" "radix" "I") (by decide +kernel)) rfl rfl dX8_takeNumeral_45 ?_
        refine lv_i2l (v := lN rx) hx hb dX8_takeNumeral_48 (nI_l (by omega)) ?_
        refine gl_lrem (r := (lt * 256 + g i) % rx) hx hb dX8_takeNumeral_49 (by omega) (by omega) (by omega) rfl ?_
        refine lv_lstore_n (lv' := [(2, .long (lN ((lt * 256 + g i) % rx))), (5, .long (lN (lt * 256 + g i))), (4, .int (nI i)), (0, .ref mo), (1, .int (nI size))]) hx hb dX8_takeNumeral_50 rfl hl (by decide) rfl (fun ls hl => ?_)
        refine lv_iinc (v := nI (i + 1)) (lv' := [(4, .int (nI (i + 1))), (2, .long (lN ((lt * 256 + g i) % rx))), (5, .long (lN (lt * 256 + g i))), (0, .ref mo), (1, .int (nI size))]) hx hb dX8_takeNumeral_51 hl (k := 2) rfl (gz_inc1 _) (by decide) rfl (fun ls hl => ?_)
        refine lv_goto (tgt := 5) hx hb dX8_takeNumeral_54 (by decide) ?_
        exact ih9_5 _ (by omega) (i + 1) (gU g i ((lt * 256 + g i) / rx)) ((lt * 256 + g i) % rx) rfl (by omega) (hk.step c_8 (by omega)) _ _ hP hD hS _ (lv_sub hl [0, 1, 3, 4] rfl)
  exact L5 _ 0 s0 0 rfl (by omega) (TkI.start hY hs) _ _ hP hD hS _ hl

set_option maxHeartbeats 4000000 in
set_option maxRecDepth 100000 in
/-- add(half, m, size, less, turned) -/
theorem c_X8_add (l : Launch) (dC : Nat → ClassId) (dI : Nat → Nat → Nat) (cI : ClassId) (sz : Nat) (mo : Nat) (abuf : Nat) (akey : Nat) (atwk : Nat) (arow : Nat) (abox : Nat) (awrd : Nat) (ablk : Nat) (amov : Nat) (ahA : Nat) (ahB : Nat) (ahC : Nat) (anum : Nat) (amsg : Nat) (astr : Nat) (th : Nat) (by_ : Nat) (ks : Nat) (ts : Nat) (rx : Nat) (mn : Nat) (rd : Nat) (za : Nat) (zb : Nat) (hf : Nat) (mm : Nat) (size : Nat) (bk : Nat) (t : Nat) (Y : Nat) (d : Nat → Nat) (c0 : Nat → Nat) (s0 : Nat → Nat) (hr1 : 2 ≤ rx) (hr2 : rx ≤ 65536) (hm : mm ≤ 64) (hsz9 : size ≤ 128) (hbk : bk ≤ 1) (ht : t ≤ 1) (hd : ∀ q, q < mm → d q < rx) (hY : Y < 256 ^ size) (hs : ∀ q, q < size → s0 q = beB Y size q) : Met l yX8_add wsX8_add ({ frames := 1, cells := 0, slots := 0, locals := 26 }) (gPc dC dI cI [.ref mo, .ref hf, .int (nI mm), .int (nI size), .int (nI bk), .int (nI t)] [(mo, .inr (7, [.int (nI th), .int (nI by_), .ref abuf, .int (nI ks), .ref akey, .int (nI ts), .ref atwk, .int (nI rx), .int (nI mn), .ref arow, .ref abox, .ref awrd, .int (nI rd), .ref ablk, .ref amov, .int (nI za), .int (nI zb), .ref ahA, .ref ahB, .ref ahC, .ref anum, .ref amsg, .ref astr])), (hf, .inl (cI, 64, .inl (gA d))), (ahC, .inl (cI, 64, .inl (gA c0))), (astr, .inl (cI, 128, .inl (gA s0)))] sz) (va_Qv (fun u : (Nat → Nat) × (Nat → Nat) => (AdI t mm bk rx Y d u.1 mm)) (fun u t => gB dC dI cI (va_A [(mo, .inr (7, [.int (nI th), .int (nI by_), .ref abuf, .int (nI ks), .ref akey, .int (nI ts), .ref atwk, .int (nI rx), .int (nI mn), .ref arow, .ref abox, .ref awrd, .int (nI rd), .ref ablk, .ref amov, .int (nI za), .int (nI zb), .ref ahA, .ref ahB, .ref ahC, .ref anum, .ref amsg, .ref astr])), (hf, .inl (cI, 64, .inl (gA d))), (ahC, .inl (cI, 64, .inl (gA c0))), (astr, .inl (cI, 128, .inl (gA s0)))] sz) [(mo, .inr (7, [.int (nI th), .int (nI by_), .ref abuf, .int (nI ks), .ref akey, .int (nI ts), .ref atwk, .int (nI rx), .int (nI mn), .ref arow, .ref abox, .ref awrd, .int (nI rd), .ref ablk, .ref amov, .int (nI za), .int (nI zb), .ref ahA, .ref ahB, .ref ahC, .ref anum, .ref amsg, .ref astr])), (hf, .inl (cI, 64, .inl (gA d))), (ahC, .inl (cI, 64, .inl (gA u.1))), (astr, .inl (cI, 128, .inl (gA u.2)))] t) (va_A [(mo, .inr (7, [.int (nI th), .int (nI by_), .ref abuf, .int (nI ks), .ref akey, .int (nI ts), .ref atwk, .int (nI rx), .int (nI mn), .ref arow, .ref abox, .ref awrd, .int (nI rd), .ref ablk, .ref amov, .int (nI za), .int (nI zb), .ref ahA, .ref ahB, .ref ahC, .ref anum, .ref amsg, .ref astr])), (hf, .inl (cI, 64, .inl (gA d))), (ahC, .inl (cI, 64, .inl (gA c0))), (astr, .inl (cI, 128, .inl (gA s0)))] sz)) 0 0 (va_A [(mo, .inr (7, [.int (nI th), .int (nI by_), .ref abuf, .int (nI ks), .ref akey, .int (nI ts), .ref atwk, .int (nI rx), .int (nI mn), .ref arow, .ref abox, .ref awrd, .int (nI rd), .ref ablk, .ref amov, .int (nI za), .int (nI zb), .ref ahA, .ref ahB, .ref ahC, .ref anum, .ref amsg, .ref astr])), (hf, .inl (cI, 64, .inl (gA d))), (ahC, .inl (cI, 64, .inl (gA c0))), (astr, .inl (cI, 128, .inl (gA s0)))] sz) := by
  refine Met.ofW (cc := cX8_add) (maxL := 11) (ret := none) (by decide) rfl ?_
  intro p e s m args below meth c s₁ B9 hml hv
  obtain ⟨rfl, hsz, ⟨hP, hK, hD0⟩⟩ := hv
  have hx := B9.exec
  have hb := B9.bytes
  have hr := B9.returns
  have hts := atoms_spec (ws := wsX8_add) B9.pre
  have hown : s.vm.findClass RX8 = some m.cls := findClass_of_methodNamed B9.named
  have hlocks := B9.notSynchronized
  subst hsz
  have hD := hD0.self (sz := s.heap.size)
  generalize hAe : va_A [(mo, .inr (7, [.int (nI th), .int (nI by_), .ref abuf, .int (nI ks), .ref akey, .int (nI ts), .ref atwk, .int (nI rx), .int (nI mn), .ref arow, .ref abox, .ref awrd, .int (nI rd), .ref ablk, .ref amov, .int (nI za), .int (nI zb), .ref ahA, .ref ahB, .ref ahC, .ref anum, .ref amsg, .ref astr])), (hf, .inl (cI, 64, .inl (gA d))), (ahC, .inl (cI, 64, .inl (gA c0))), (astr, .inl (cI, 128, .inl (gA s0)))] s.heap.size = A at hD ⊢
  have hA : ∀ q : Nat, s.heap.size ≤ q → A q := fun q h => by rw [← hAe]; exact Or.inr h
  have hS : va_S A s.heap s.heap [] := va_S.rf
  have hl := lv_entry ([.ref mo, .ref hf, .int (nI mm), .int (nI size), .int (nI bk), .int (nI t)]) (n := 11) (Nat.le_of_ble_eq_true rfl)
  rw [lg_entry_eq]
  generalize (lg_sl ([.ref mo, .ref hf, .int (nI mm), .int (nI size), .int (nI bk), .int (nI t)]) ++ List.replicate (11 - (lg_sl ([.ref mo, .ref hf, .int (nI mm), .int (nI size), .int (nI bk), .int (nI t)])).length) Slot.unset).toArray = ls at hl ⊢
  have hl : lv_has ls 11 [(0, .ref mo), (1, .ref hf), (2, .int (nI mm)), (3, .int (nI size)), (4, .int (nI bk)), (5, .int (nI t))] := hl
  refine lv_iconst (v := nI 0) hx hb dX8_add_0 (by decide) ?_
  refine gv_top (y := nI (shC bk rx Y (fun q => d (plc t 0 mm q)) 0)) rfl ?_
  refine lv_istore (lv' := [(6, .int (nI (shC bk rx Y (fun q => d (plc t 0 mm q)) 0))), (0, .ref mo), (1, .ref hf), (2, .int (nI mm)), (3, .int (nI size)), (4, .int (nI bk)), (5, .int (nI t))]) hx hb dX8_add_1 hl (by decide) rfl (fun ls hl => ?_)
  refine lv_iconst (v := nI 0) hx hb dX8_add_3 (by decide) ?_
  refine lv_istore (lv' := [(7, .int (nI 0)), (6, .int (nI (shC bk rx Y (fun q => d (plc t 0 mm q)) 0))), (0, .ref mo), (1, .ref hf), (2, .int (nI mm)), (3, .int (nI size)), (4, .int (nI bk)), (5, .int (nI t))]) hx hb dX8_add_4 hl (by decide) rfl (fun ls hl => ?_)
  refine gw_lab (G := fun R args Q => ∀ (n9_6 : Nat) (i : Nat) (g : Nat → Nat) (h : Nat → Nat), n9_6 = mm - i → (i ≤ mm) → (AdI t mm bk rx Y d g i) → (∀ q, q < size → h q = beB (Y / rx ^ i) size q) → ∀ (H : Heap) (locs : List Loc), va_P (dC, dI) vwCl [(mo, .inr (7, [.int (nI th), .int (nI by_), .ref abuf, .int (nI ks), .ref akey, .int (nI ts), .ref atwk, .int (nI rx), .int (nI mn), .ref arow, .ref abox, .ref awrd, .int (nI rd), .ref ablk, .ref amov, .int (nI za), .int (nI zb), .ref ahA, .ref ahB, .ref ahC, .ref anum, .ref amsg, .ref astr])), (hf, .inl (cI, 64, .inl (gA d))), (ahC, .inl (cI, 64, .inl (gA g))), (astr, .inl (cI, 128, .inl (gA h)))] H → va_D A [(mo, .inr (7, [.int (nI th), .int (nI by_), .ref abuf, .int (nI ks), .ref akey, .int (nI ts), .ref atwk, .int (nI rx), .int (nI mn), .ref arow, .ref abox, .ref awrd, .int (nI rd), .ref ablk, .ref amov, .int (nI za), .int (nI zb), .ref ahA, .ref ahB, .ref ahC, .ref anum, .ref amsg, .ref astr])), (hf, .inl (cI, 64, .inl (gA d))), (ahC, .inl (cI, 64, .inl (gA g))), (astr, .inl (cI, 128, .inl (gA h)))] → va_S A s.heap H locs → ∀ (ls : Array Slot), lv_has ls 11 [(7, .int (nI i)), (6, .int (nI (shC bk rx Y (fun q => d (plc t 0 mm q)) i))), (0, .ref mo), (1, .ref hf), (2, .int (nI mm)), (3, .int (nI size)), (4, .int (nI bk)), (5, .int (nI t))] → W p l e R s m args below meth c H locs 0 0 Q (F0 m 6 ls [])) ?_ (fun L6 => ?_)
  ·
    intro n9_6
    induction n9_6 using Nat.strongRecOn with
    | ind n9_6 ih9_6 =>
      intro i g h hmu9_6 hi hg hst H locs hP hD hS ls hl
      refine lv_iload hx hb dX8_add_6 (lv_at hl 0 rfl) ?_
      refine lv_iload_n hx hb dX8_add_8 rfl (lv_at hl 4 rfl) ?_
      refine gv_icmp_ge (tgt := 137) hx hb dX8_add_9 (by decide) (by omega) (by omega) (fun c_9 => ?_) (fun c_9 => ?_)
      ·
        have e9 : i = mm := by omega
        rw [e9] at hg
        exact W.vret hx hb hr (fun t ht hW => ⟨⟨(g, h), rfl, hg, gB_end ht hW hP hK hD⟩, hS.F ht⟩) hS.2.2 dX8_add_137
      ·
        have hpl := plc_in (lf := t) (fr := 0) (ln := mm) c_9
        have hdi : d (plc t 0 mm i) < rx := hd _ (by omega)
        have hstl := st_le (b := rx) (Y := Y) (k := i) (by omega) (shC_le bk rx Y (fun q => d (plc t 0 mm q)) i)
        have hcl := shC_le bk rx Y (fun q => d (plc t 0 mm q)) i
        have hnum := shC_num (bk := bk) (Y := Y) (d := (fun q => d (plc t 0 mm q))) (k := i) hdi hr2
        refine gw_lab (G := fun R args Q =>  ∀ (H : Heap) (locs : List Loc), va_P (dC, dI) vwCl [(mo, .inr (7, [.int (nI th), .int (nI by_), .ref abuf, .int (nI ks), .ref akey, .int (nI ts), .ref atwk, .int (nI rx), .int (nI mn), .ref arow, .ref abox, .ref awrd, .int (nI rd), .ref ablk, .ref amov, .int (nI za), .int (nI zb), .ref ahA, .ref ahB, .ref ahC, .ref anum, .ref amsg, .ref astr])), (hf, .inl (cI, 64, .inl (gA d))), (ahC, .inl (cI, 64, .inl (gA g))), (astr, .inl (cI, 128, .inl (gA h)))] H → va_D A [(mo, .inr (7, [.int (nI th), .int (nI by_), .ref abuf, .int (nI ks), .ref akey, .int (nI ts), .ref atwk, .int (nI rx), .int (nI mn), .ref arow, .ref abox, .ref awrd, .int (nI rd), .ref ablk, .ref amov, .int (nI za), .int (nI zb), .ref ahA, .ref ahB, .ref ahC, .ref anum, .ref amsg, .ref astr])), (hf, .inl (cI, 64, .inl (gA d))), (ahC, .inl (cI, 64, .inl (gA g))), (astr, .inl (cI, 128, .inl (gA h)))] → va_S A s.heap H locs → ∀ (ls : Array Slot), lv_has ls 11 [(7, .int (nI i)), (6, .int (nI (shC bk rx Y (fun q => d (plc t 0 mm q)) i))), (0, .ref mo), (1, .ref hf), (2, .int (nI mm)), (3, .int (nI size)), (4, .int (nI bk)), (5, .int (nI t))] → W p l e R s m args below meth c H locs 0 0 Q (F0 m 28 ls [.int (nI (plc t 0 mm i))])) ?_ (fun L28 => ?_)
        ·
          intro  H locs hP hD hS ls hl
          refine lv_istore (lv' := [(8, .int (nI (plc t 0 mm i))), (7, .int (nI i)), (6, .int (nI (shC bk rx Y (fun q => d (plc t 0 mm q)) i))), (0, .ref mo), (1, .ref hf), (2, .int (nI mm)), (3, .int (nI size)), (4, .int (nI bk)), (5, .int (nI t))]) hx hb dX8_add_28 hl (by decide) rfl (fun ls hl => ?_)
          refine lv_aload_n hx hb dX8_add_30 rfl (lv_at hl 3 rfl) ?_
          refine lv_iload_n hx hb dX8_add_31 rfl (lv_at hl 6 rfl) ?_
          have hPc := hP.sub (ws' := [(mo, .inr (7, [.int (nI th), .int (nI by_), .ref abuf, .int (nI ks), .ref akey, .int (nI ts), .ref atwk, .int (nI rx), .int (nI mn), .ref arow, .ref abox, .ref awrd, .int (nI rd), .ref ablk, .ref amov, .int (nI za), .int (nI zb), .ref ahA, .ref ahB, .ref ahC, .ref anum, .ref amsg, .ref astr])), (astr, .inl (cI, 128, .inl (gA h)))]) [0, 3] rfl
          have hDc := hD.sub (ws' := [(mo, .inr (7, [.int (nI th), .int (nI by_), .ref abuf, .int (nI ks), .ref akey, .int (nI ts), .ref atwk, .int (nI rx), .int (nI mn), .ref arow, .ref abox, .ref awrd, .int (nI rd), .ref ablk, .ref amov, .int (nI za), .int (nI zb), .ref ahA, .ref ahB, .ref ahC, .ref anum, .ref amsg, .ref astr])), (astr, .inl (cI, 128, .inl (gA h)))]) [0, 3] (by decide) rfl
          have hFc := va_free (wc := [(mo, .inr (7, [.int (nI th), .int (nI by_), .ref abuf, .int (nI ks), .ref akey, .int (nI ts), .ref atwk, .int (nI rx), .int (nI mn), .ref arow, .ref abox, .ref awrd, .int (nI rd), .ref ablk, .ref amov, .int (nI za), .int (nI zb), .ref ahA, .ref ahB, .ref ahC, .ref anum, .ref amsg, .ref astr])), (astr, .inl (cI, 128, .inl (gA h)))]) hD hS hA [0, 3] rfl
          refine va_calli (va_runV (As := [.int (nI size)]) (rest := []) ⟨hx, hb, hml, hown, hts⟩ (c_X8_takeNumeral l dC dI cI H.size mo abuf akey atwk arow abox awrd ablk amov ahA ahB ahC anum amsg astr th by_ ks ts rx mn rd za zb size (Y / rx ^ i) h (by omega) (by omega) (by omega) (Y_lt hY) hst) (cwV 1 hts gX8_add_X8_takeNumeral rfl rfl rfl (by decide +kernel) ⟨Nat.le_of_ble_eq_true rfl, Nat.le_of_ble_eq_true rfl⟩) ⟨gPc_blind, va_recv hK hPc (ci := 7) (q0 := 0) rfl rfl, gPc_pre hPc hK hDc⟩ rfl rfl hl.1 rfl (lv_room (Nat.le_of_ble_eq_true rfl)) dX8_add_32 ⟨Nat.zero_le _, Nat.zero_le _⟩) hS (fun q _ h => hFc q h) hFc (fun r9 u8 t8 H1 locs ht hvm hw hB hz1 hk1 hS => ?_)
          obtain ⟨s9_1, rfl⟩ : ∃ z, z = u8 := ⟨_, rfl⟩
          try dsimp only at hw hB
          obtain ⟨hP, hD⟩ := gB_join (wr := [(hf, .inl (cI, 64, .inl (gA d))), (ahC, .inl (cI, 64, .inl (gA g)))]) (w2 := [(hf, .inl (cI, 64, .inl (gA d))), (ahC, .inl (cI, 64, .inl (gA g))), (mo, .inr (7, [.int (nI th), .int (nI by_), .ref abuf, .int (nI ks), .ref akey, .int (nI ts), .ref atwk, .int (nI rx), .int (nI mn), .ref arow, .ref abox, .ref awrd, .int (nI rd), .ref ablk, .ref amov, .int (nI za), .int (nI zb), .ref ahA, .ref ahB, .ref ahC, .ref anum, .ref amsg, .ref astr])), (astr, .inl (cI, 128, .inl (gA s9_1)))]) hP hD [0, 3] [1, 2] rfl rfl (by decide) (by decide) hk1 hFc ht hB rfl
          clear hk1 hz1 ht hB hvm hPc hDc hFc
          generalize H1 = H at hP hS ⊢
          obtain ⟨rfl, hs2⟩ := hw
          refine lv_istore (lv' := [(9, .int (nI ((Y / rx ^ i) % rx))), (8, .int (nI (plc t 0 mm i))), (7, .int (nI i)), (6, .int (nI (shC bk rx Y (fun q => d (plc t 0 mm q)) i))), (0, .ref mo), (1, .ref hf), (2, .int (nI mm)), (3, .int (nI size)), (4, .int (nI bk)), (5, .int (nI t))]) hx hb dX8_add_35 hl (by decide) rfl (fun ls hl => ?_)
          refine gw_lab (G := fun R args Q =>  ∀ (H : Heap) (locs : List Loc), va_P (dC, dI) vwCl [(hf, .inl (cI, 64, .inl (gA d))), (ahC, .inl (cI, 64, .inl (gA g))), (mo, .inr (7, [.int (nI th), .int (nI by_), .ref abuf, .int (nI ks), .ref akey, .int (nI ts), .ref atwk, .int (nI rx), .int (nI mn), .ref arow, .ref abox, .ref awrd, .int (nI rd), .ref ablk, .ref amov, .int (nI za), .int (nI zb), .ref ahA, .ref ahB, .ref ahC, .ref anum, .ref amsg, .ref astr])), (astr, .inl (cI, 128, .inl (gA s9_1)))] H → va_D A [(hf, .inl (cI, 64, .inl (gA d))), (ahC, .inl (cI, 64, .inl (gA g))), (mo, .inr (7, [.int (nI th), .int (nI by_), .ref abuf, .int (nI ks), .ref akey, .int (nI ts), .ref atwk, .int (nI rx), .int (nI mn), .ref arow, .ref abox, .ref awrd, .int (nI rd), .ref ablk, .ref amov, .int (nI za), .int (nI zb), .ref ahA, .ref ahB, .ref ahC, .ref anum, .ref amsg, .ref astr])), (astr, .inl (cI, 128, .inl (gA s9_1)))] → va_S A s.heap H locs → ∀ (ls : Array Slot), lv_has ls 11 [(9, .int (nI (Y / rx ^ i % rx))), (8, .int (nI (plc t 0 mm i))), (7, .int (nI i)), (6, .int (nI (shC bk rx Y (fun q => d (plc t 0 mm q)) i))), (0, .ref mo), (1, .ref hf), (2, .int (nI mm)), (3, .int (nI size)), (4, .int (nI bk)), (5, .int (nI t))] → W p l e R s m args below meth c H locs 0 0 Q (F0 m 65 ls [.int (shV bk (d (plc t 0 mm i)) (Y / rx ^ i % rx + shC bk rx Y (fun q => d (plc t 0 mm q)) i))])) ?_ (fun L65 => ?_)
          ·
            intro  H locs hP hD hS ls hl
            refine lv_istore (lv' := [(10, .int (shV bk (d (plc t 0 mm i)) (Y / rx ^ i % rx + shC bk rx Y (fun q => d (plc t 0 mm q)) i))), (9, .int (nI (Y / rx ^ i % rx))), (8, .int (nI (plc t 0 mm i))), (7, .int (nI i)), (6, .int (nI (shC bk rx Y (fun q => d (plc t 0 mm q)) i))), (0, .ref mo), (1, .ref hf), (2, .int (nI mm)), (3, .int (nI size)), (4, .int (nI bk)), (5, .int (nI t))]) hx hb dX8_add_65 hl (by decide) rfl (fun ls hl => ?_)
            refine gw_lab (G := fun R args Q =>  ∀ (H : Heap) (locs : List Loc), va_P (dC, dI) vwCl [(hf, .inl (cI, 64, .inl (gA d))), (ahC, .inl (cI, 64, .inl (gA g))), (mo, .inr (7, [.int (nI th), .int (nI by_), .ref abuf, .int (nI ks), .ref akey, .int (nI ts), .ref atwk, .int (nI rx), .int (nI mn), .ref arow, .ref abox, .ref awrd, .int (nI rd), .ref ablk, .ref amov, .int (nI za), .int (nI zb), .ref ahA, .ref ahB, .ref ahC, .ref anum, .ref amsg, .ref astr])), (astr, .inl (cI, 128, .inl (gA s9_1)))] H → va_D A [(hf, .inl (cI, 64, .inl (gA d))), (ahC, .inl (cI, 64, .inl (gA g))), (mo, .inr (7, [.int (nI th), .int (nI by_), .ref abuf, .int (nI ks), .ref akey, .int (nI ts), .ref atwk, .int (nI rx), .int (nI mn), .ref arow, .ref abox, .ref awrd, .int (nI rd), .ref ablk, .ref amov, .int (nI za), .int (nI zb), .ref ahA, .ref ahB, .ref ahC, .ref anum, .ref amsg, .ref astr])), (astr, .inl (cI, 128, .inl (gA s9_1)))] → va_S A s.heap H locs → ∀ (ls : Array Slot), lv_has ls 11 [(10, .int (shV bk (d (plc t 0 mm i)) (Y / rx ^ i % rx + shC bk rx Y (fun q => d (plc t 0 mm q)) i))), (8, .int (nI (plc t 0 mm i))), (7, .int (nI i)), (0, .ref mo), (1, .ref hf), (2, .int (nI mm)), (3, .int (nI size)), (4, .int (nI bk)), (5, .int (nI t))] → W p l e R s m args below meth c H locs 0 0 Q (F0 m 86 ls [.int (nI (shC bk rx Y (fun q => d (plc t 0 mm q)) (i + 1)))])) ?_ (fun L86 => ?_)
            ·
              intro  H locs hP hD hS ls hl
              refine lv_istore (lv' := [(6, .int (nI (shC bk rx Y (fun q => d (plc t 0 mm q)) (i + 1)))), (10, .int (shV bk (d (plc t 0 mm i)) (Y / rx ^ i % rx + shC bk rx Y (fun q => d (plc t 0 mm q)) i))), (8, .int (nI (plc t 0 mm i))), (7, .int (nI i)), (0, .ref mo), (1, .ref hf), (2, .int (nI mm)), (3, .int (nI size)), (4, .int (nI bk)), (5, .int (nI t))]) hx hb dX8_add_86 hl (by decide) rfl (fun ls hl => ?_)
              refine lv_aload_n hx hb dX8_add_88 rfl (lv_at hl 4 rfl) ?_
              refine gv_get (own := RX8) (D := (dC, dI)) (ci := 7) (C := RX8) (T := TX8) (N := 23) (v := .ref ahC) hx hb hts (by decide +kernel) hown hK hP 2 rfl rfl 19 (by decide) (hts (.fieldLink RX8 47 "NumeralCipherModel" "halfC" "[I") (by decide +kernel)) rfl rfl dX8_add_89 ?_
              refine lv_iload hx hb dX8_add_92 (lv_at hl 2 rfl) ?_
              refine gw_lab (G := fun R args Q =>  ∀ (H : Heap) (locs : List Loc), va_P (dC, dI) vwCl [(hf, .inl (cI, 64, .inl (gA d))), (ahC, .inl (cI, 64, .inl (gA g))), (mo, .inr (7, [.int (nI th), .int (nI by_), .ref abuf, .int (nI ks), .ref akey, .int (nI ts), .ref atwk, .int (nI rx), .int (nI mn), .ref arow, .ref abox, .ref awrd, .int (nI rd), .ref ablk, .ref amov, .int (nI za), .int (nI zb), .ref ahA, .ref ahB, .ref ahC, .ref anum, .ref amsg, .ref astr])), (astr, .inl (cI, 128, .inl (gA s9_1)))] H → va_D A [(hf, .inl (cI, 64, .inl (gA d))), (ahC, .inl (cI, 64, .inl (gA g))), (mo, .inr (7, [.int (nI th), .int (nI by_), .ref abuf, .int (nI ks), .ref akey, .int (nI ts), .ref atwk, .int (nI rx), .int (nI mn), .ref arow, .ref abox, .ref awrd, .int (nI rd), .ref ablk, .ref amov, .int (nI za), .int (nI zb), .ref ahA, .ref ahB, .ref ahC, .ref anum, .ref amsg, .ref astr])), (astr, .inl (cI, 128, .inl (gA s9_1)))] → va_S A s.heap H locs → ∀ (ls : Array Slot), lv_has ls 11 [(6, .int (nI (shC bk rx Y (fun q => d (plc t 0 mm q)) (i + 1)))), (10, .int (shV bk (d (plc t 0 mm i)) (Y / rx ^ i % rx + shC bk rx Y (fun q => d (plc t 0 mm q)) i))), (8, .int (nI (plc t 0 mm i))), (7, .int (nI i)), (0, .ref mo), (1, .ref hf), (2, .int (nI mm)), (3, .int (nI size)), (4, .int (nI bk)), (5, .int (nI t))] → W p l e R s m args below meth c H locs 0 0 Q (F0 m 130 ls [.int (nI (shR bk rx Y (fun q => d (plc t 0 mm q)) i)), .int (nI (plc t 0 mm i)), .ref ahC])) ?_ (fun L130 => ?_)
              ·
                intro  H locs hP hD hS ls hl
                refine gv_iast (ws' := [(hf, .inl (cI, 64, .inl (gA d))), (ahC, .inl (cI, 64, .inl (gA (gU g (plc t 0 mm i) (shR bk rx Y (fun q => d (plc t 0 mm q)) i))))), (mo, .inr (7, [.int (nI th), .int (nI by_), .ref abuf, .int (nI ks), .ref akey, .int (nI ts), .ref atwk, .int (nI rx), .int (nI mn), .ref arow, .ref abox, .ref awrd, .int (nI rd), .ref ablk, .ref amov, .int (nI za), .int (nI zb), .ref ahA, .ref ahB, .ref ahC, .ref anum, .ref amsg, .ref astr])), (astr, .inl (cI, 128, .inl (gA s9_1)))]) hx hb hK hP hD hS 1 0 rfl rfl rfl (by omega) (by omega) dX8_add_130 (fun H locs hP hD hS => ?_)
                refine lv_iinc (v := nI (i + 1)) (lv' := [(7, .int (nI (i + 1))), (6, .int (nI (shC bk rx Y (fun q => d (plc t 0 mm q)) (i + 1)))), (10, .int (shV bk (d (plc t 0 mm i)) (Y / rx ^ i % rx + shC bk rx Y (fun q => d (plc t 0 mm q)) i))), (8, .int (nI (plc t 0 mm i))), (0, .ref mo), (1, .ref hf), (2, .int (nI mm)), (3, .int (nI size)), (4, .int (nI bk)), (5, .int (nI t))]) hx hb dX8_add_131 hl (k := 3) rfl (gz_inc1 _) (by decide) rfl (fun ls hl => ?_)
                refine lv_goto (tgt := 6) hx hb dX8_add_134 (by decide) ?_
                exact ih9_6 _ (by omega) (i + 1) (gU g (plc t 0 mm i) (shR bk rx Y (fun q => d (plc t 0 mm q)) i)) s9_1 rfl (by omega) (hg.step c_9 rfl) (by rw [Nat.pow_succ, ← Nat.div_div_eq_div_mul]; exact hs2) _ _ (hP.sub [2, 0, 1, 3] rfl) (hD.sub [2, 0, 1, 3] (by decide) rfl) hS _ (lv_sub hl [0, 1, 4, 5, 6, 7, 8, 9] rfl)
              refine lv_iload hx hb dX8_add_94 (lv_at hl 1 rfl) ?_
              refine lv_if_ge (tgt := 109) hx hb dX8_add_96 (by decide) (fun c_96 => ?_) (fun c_96 => ?_)
              ·
                have h8 : 0 ≤ (shV bk (d (plc t 0 mm i)) (Y / rx ^ i % rx + shC bk rx Y (fun q => d (plc t 0 mm q)) i)).toInt := by rw [Int32.le_iff_toInt_le, Int32.toInt_zero] at c_96; exact c_96
                refine lv_iload hx hb dX8_add_109 (lv_at hl 1 rfl) ?_
                refine lv_aload_n hx hb dX8_add_111 rfl (lv_at hl 4 rfl) ?_
                refine gv_get (own := RX8) (D := (dC, dI)) (ci := 7) (C := RX8) (T := TX8) (N := 23) (v := .int (nI rx)) hx hb hts (by decide +kernel) hown hK hP 2 rfl rfl 7 (by decide) (hts (.fieldLink RX8 23 "NumeralCipherModel" "radix" "I") (by decide +kernel)) rfl rfl dX8_add_112 ?_
                refine lv_icmp_lt (tgt := 128) hx hb dX8_add_115 (by decide) (fun c_115 => ?_) (fun c_115 => ?_)
                ·
                  have h9 : (shV bk (d (plc t 0 mm i)) (Y / rx ^ i % rx + shC bk rx Y (fun q => d (plc t 0 mm q)) i)).toInt < (rx : Int) := by rw [Int32.lt_iff_toInt_lt, nI_toInt (by omega)] at c_115; exact c_115
                  refine lv_iload hx hb dX8_add_128 (lv_at hl 1 rfl) ?_
                  refine gv_top (y := (nI (shR bk rx Y (fun q => d (plc t 0 mm q)) i))) (add_in (d := (fun q => d (plc t 0 mm q))) (k := i) hdi hr2 (show ¬ (shV bk (d (plc t 0 mm i)) (Y / rx ^ i % rx + shC bk rx Y (fun q => d (plc t 0 mm q)) i)).toInt < 0 by omega) h9) ?_
                  exact L130   _ _ hP hD hS _ hl
                ·
                  have h9 : ¬ (shV bk (d (plc t 0 mm i)) (Y / rx ^ i % rx + shC bk rx Y (fun q => d (plc t 0 mm q)) i)).toInt < (rx : Int) := by rw [Int32.lt_iff_toInt_lt, nI_toInt (by omega)] at c_115; exact c_115
                  refine lv_iload hx hb dX8_add_118 (lv_at hl 1 rfl) ?_
                  refine lv_aload_n hx hb dX8_add_120 rfl (lv_at hl 4 rfl) ?_
                  refine gv_get (own := RX8) (D := (dC, dI)) (ci := 7) (C := RX8) (T := TX8) (N := 23) (v := .int (nI rx)) hx hb hts (by decide +kernel) hown hK hP 2 rfl rfl 7 (by decide) (hts (.fieldLink RX8 23 "NumeralCipherModel" "radix" "I") (by decide +kernel)) rfl rfl dX8_add_121 ?_
                  refine lv_isub hx hb dX8_add_124 ?_
                  refine gv_top (y := (nI (shR bk rx Y (fun q => d (plc t 0 mm q)) i))) (add_big (d := (fun q => d (plc t 0 mm q))) (k := i) hdi hr2 (show (rx : Int) ≤ (shV bk (d (plc t 0 mm i)) (Y / rx ^ i % rx + shC bk rx Y (fun q => d (plc t 0 mm q)) i)).toInt by omega)) ?_
                  refine lv_goto (tgt := 130) hx hb dX8_add_125 (by decide) ?_
                  exact L130   _ _ hP hD hS _ hl
              ·
                have h8 : ¬ 0 ≤ (shV bk (d (plc t 0 mm i)) (Y / rx ^ i % rx + shC bk rx Y (fun q => d (plc t 0 mm q)) i)).toInt := by rw [Int32.le_iff_toInt_le, Int32.toInt_zero] at c_96; exact c_96
                refine lv_iload hx hb dX8_add_99 (lv_at hl 1 rfl) ?_
                refine lv_aload_n hx hb dX8_add_101 rfl (lv_at hl 4 rfl) ?_
                refine gv_get (own := RX8) (D := (dC, dI)) (ci := 7) (C := RX8) (T := TX8) (N := 23) (v := .int (nI rx)) hx hb hts (by decide +kernel) hown hK hP 2 rfl rfl 7 (by decide) (hts (.fieldLink RX8 23 "NumeralCipherModel" "radix" "I") (by decide +kernel)) rfl rfl dX8_add_102 ?_
                refine lv_iadd hx hb dX8_add_105 ?_
                refine gv_top (y := (nI (shR bk rx Y (fun q => d (plc t 0 mm q)) i))) (add_neg (d := (fun q => d (plc t 0 mm q))) (k := i) hdi hr2 (show (shV bk (d (plc t 0 mm i)) (Y / rx ^ i % rx + shC bk rx Y (fun q => d (plc t 0 mm q)) i)).toInt < 0 by omega)) ?_
                refine lv_goto (tgt := 130) hx hb dX8_add_106 (by decide) ?_
                exact L130   _ _ hP hD hS _ hl
            refine lv_iload hx hb dX8_add_67 (lv_at hl 0 rfl) ?_
            refine lv_if_lt (tgt := 81) hx hb dX8_add_69 (by decide) (fun c_69 => ?_) (fun c_69 => ?_)
            ·
              have h8 : (shV bk (d (plc t 0 mm i)) (Y / rx ^ i % rx + shC bk rx Y (fun q => d (plc t 0 mm q)) i)).toInt < 0 := by rw [Int32.lt_iff_toInt_lt, Int32.toInt_zero] at c_69; exact c_69
              refine lv_iconst (v := nI 1) hx hb dX8_add_81 (by decide) ?_
              refine gv_top (y := nI (shC bk rx Y (fun q => d (plc t 0 mm q)) (i + 1))) (congrArg nI (hnum.trans (if_neg (fun q9 => by omega))).symm) ?_
              refine lv_goto (tgt := 86) hx hb dX8_add_82 (by decide) ?_
              exact L86   _ _ hP hD hS _ (lv_sub hl [0, 2, 3, 5, 6, 7, 8, 9, 10] rfl)
            ·
              have h8 : ¬ (shV bk (d (plc t 0 mm i)) (Y / rx ^ i % rx + shC bk rx Y (fun q => d (plc t 0 mm q)) i)).toInt < 0 := by rw [Int32.lt_iff_toInt_lt, Int32.toInt_zero] at c_69; exact c_69
              refine lv_iload hx hb dX8_add_72 (lv_at hl 0 rfl) ?_
              refine lv_aload_n hx hb dX8_add_74 rfl (lv_at hl 5 rfl) ?_
              refine gv_get (own := RX8) (D := (dC, dI)) (ci := 7) (C := RX8) (T := TX8) (N := 23) (v := .int (nI rx)) hx hb hts (by decide +kernel) hown hK hP 2 rfl rfl 7 (by decide) (hts (.fieldLink RX8 23 "NumeralCipherModel" "radix" "I") (by decide +kernel)) rfl rfl dX8_add_75 ?_
              refine lv_icmp_lt (tgt := 85) hx hb dX8_add_78 (by decide) (fun c_78 => ?_) (fun c_78 => ?_)
              ·
                have h9 : (shV bk (d (plc t 0 mm i)) (Y / rx ^ i % rx + shC bk rx Y (fun q => d (plc t 0 mm q)) i)).toInt < (rx : Int) := by rw [Int32.lt_iff_toInt_lt, nI_toInt (by omega)] at c_78; exact c_78
                refine lv_iconst (v := nI 0) hx hb dX8_add_85 (by decide) ?_
                refine gv_top (y := nI (shC bk rx Y (fun q => d (plc t 0 mm q)) (i + 1))) (congrArg nI (hnum.trans (if_pos ⟨by omega, h9⟩)).symm) ?_
                exact L86   _ _ hP hD hS _ (lv_sub hl [0, 2, 3, 5, 6, 7, 8, 9, 10] rfl)
              ·
                have h9 : ¬ (shV bk (d (plc t 0 mm i)) (Y / rx ^ i % rx + shC bk rx Y (fun q => d (plc t 0 mm q)) i)).toInt < (rx : Int) := by rw [Int32.lt_iff_toInt_lt, nI_toInt (by omega)] at c_78; exact c_78
                refine lv_iconst (v := nI 1) hx hb dX8_add_81 (by decide) ?_
                refine gv_top (y := nI (shC bk rx Y (fun q => d (plc t 0 mm q)) (i + 1))) (congrArg nI (hnum.trans (if_neg (fun q9 => by omega))).symm) ?_
                refine lv_goto (tgt := 86) hx hb dX8_add_82 (by decide) ?_
                exact L86   _ _ hP hD hS _ (lv_sub hl [0, 2, 3, 5, 6, 7, 8, 9, 10] rfl)
          refine lv_iload hx hb dX8_add_37 (lv_at hl 8 rfl) ?_
          refine gv_if_eq (tgt := 55) hx hb dX8_add_39 (by decide) (by omega) (fun c_39 => ?_) (fun c_39 => ?_)
          ·
            refine lv_aload_n hx hb dX8_add_55 rfl (lv_at hl 5 rfl) ?_
            refine lv_iload hx hb dX8_add_56 (lv_at hl 1 rfl) ?_
            refine gv_iald hx hb hK hP 0 0 rfl rfl (by omega) (by omega) dX8_add_58 ?_
            refine lv_iload hx hb dX8_add_59 (lv_at hl 0 rfl) ?_
            refine gv_iadd (r := (d (plc t 0 mm i)) + ((Y / rx ^ i) % rx)) hx hb dX8_add_61 rfl ?_
            refine lv_iload hx hb dX8_add_62 (lv_at hl 3 rfl) ?_
            refine gv_iadd (r := ((d (plc t 0 mm i)) + ((Y / rx ^ i) % rx)) + (shC bk rx Y (fun q => d (plc t 0 mm q)) i)) hx hb dX8_add_64 rfl ?_
            refine gv_top (y := (shV bk (d (plc t 0 mm i)) (Y / rx ^ i % rx + shC bk rx Y (fun q => d (plc t 0 mm q)) i))) ((congrArg nI (Nat.add_assoc _ _ _)).trans (by rw [c_39]; exact shV_n)) ?_
            exact L65   _ _ hP hD hS _ hl
          ·
            refine lv_aload_n hx hb dX8_add_42 rfl (lv_at hl 5 rfl) ?_
            refine lv_iload hx hb dX8_add_43 (lv_at hl 1 rfl) ?_
            refine gv_iald hx hb hK hP 0 0 rfl rfl (by omega) (by omega) dX8_add_45 ?_
            refine lv_iload hx hb dX8_add_46 (lv_at hl 0 rfl) ?_
            refine lv_isub hx hb dX8_add_48 ?_
            refine lv_iload hx hb dX8_add_49 (lv_at hl 3 rfl) ?_
            refine lv_isub hx hb dX8_add_51 ?_
            refine gv_top (y := (shV bk (d (plc t 0 mm i)) (Y / rx ^ i % rx + shC bk rx Y (fun q => d (plc t 0 mm q)) i))) (shV_s c_39) ?_
            refine lv_goto (tgt := 65) hx hb dX8_add_52 (by decide) ?_
            exact L65   _ _ hP hD hS _ hl
        refine lv_iload hx hb dX8_add_12 (lv_at hl 7 rfl) ?_
        refine gv_if_eq (tgt := 22) hx hb dX8_add_14 (by decide) (by omega) (fun c_14 => ?_) (fun c_14 => ?_)
        ·
          refine lv_iload_n hx hb dX8_add_22 rfl (lv_at hl 4 rfl) ?_
          refine lv_iconst (v := nI 1) hx hb dX8_add_23 (by decide) ?_
          refine gv_isub (r := mm - 1) hx hb dX8_add_24 (by omega) ?_
          refine lv_iload hx hb dX8_add_25 (lv_at hl 0 rfl) ?_
          refine gv_isub (r := (mm - 1) - i) hx hb dX8_add_27 (by omega) ?_
          refine gv_top (y := nI (plc t 0 mm i)) (congrArg nI (by unfold plc; rw [if_pos c_14]; omega)) ?_
          exact L28   _ _ hP hD hS _ hl
        ·
          refine lv_iload hx hb dX8_add_17 (lv_at hl 0 rfl) ?_
          refine gv_top (y := nI (plc t 0 mm i)) (congrArg nI (by unfold plc; rw [if_neg c_14]; omega)) ?_
          refine lv_goto (tgt := 28) hx hb dX8_add_19 (by decide) ?_
          exact L28   _ _ hP hD hS _ hl
  exact L6 _ 0 c0 s0 rfl (by omega) (fun k hk => absurd hk (Nat.not_lt_zero k)) (by rw [Nat.pow_zero, Nat.div_one]; exact hs) _ _ hP hD hS _ hl
