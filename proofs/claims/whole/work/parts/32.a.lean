/-! The law's own methods: worlds with a row of longs. -/
def gB2 (dC : Nat → ClassId) (dI : Nat → Nat → Nat) (cI cL : ClassId) (A : Nat → Prop) (ws : va_W) (t : State) : Prop := va_P (dC, dI) vwCl ws t.heap ∧ va_K (dC, dI) vwCl [(cI, .int), (cL, .long)] t ∧ va_D A ws
theorem gB2.gB {dC : Nat → ClassId} {dI : Nat → Nat → Nat} {cI cL : ClassId} {A : Nat → Prop} {ws : va_W} {t : State} (h : gB2 dC dI cI cL A ws t) : gB dC dI cI A ws t := ⟨h.1, h.2.1.sub [0] rfl, h.2.2⟩
theorem gB2_end {dC : Nat → ClassId} {dI : Nat → Nat → Nat} {cI cL : ClassId} {A : Nat → Prop} {ws : va_W} {s t : State} {H : Heap} (ht : t.heap = H) (hW : s.WarmedH t.vm) (hP : va_P (dC, dI) vwCl ws H) (hK : va_K (dC, dI) vwCl [(cI, .int), (cL, .long)] s) (hD : va_D A ws) : gB2 dC dI cI cL A ws t := ⟨by rw [ht]; exact hP, va_K.moved hW.alike hK, hD⟩
def gPw (dC : Nat → ClassId) (dI : Nat → Nat → Nat) (cI cL : ClassId) (tS : Nat) (av : List Value) (ws : va_W) (sz : Nat) : Array Value → State → Prop := va_Pc av (fun U => U.heap.size = sz ∧ gB2 dC dI cI cL (fun _ => True) ws U ∧ gF tS (va_A ws sz) U U.heap)
theorem gPw_blind {dC : Nat → ClassId} {dI : Nat → Nat → Nat} {cI cL : ClassId} {tS : Nat} {av : List Value} {ws : va_W} {sz : Nat} : FrameBlind (gPw dC dI cI cL tS av ws sz) := fun a U g mk q => by
  obtain ⟨q0, q1, ⟨qP, qK, qD⟩, qE⟩ := q
  exact ⟨q0, q1, ⟨qP, va_K.moved (u := U) (U := U.calling g mk a) (Vm.Alike.refl U.vm) qK, qD⟩, gF.same (u := U) (U := U.calling g mk a) qE rfl⟩
theorem gPw_pre {dC : Nat → ClassId} {dI : Nat → Nat → Nat} {cI cL : ClassId} {tS : Nat} {av : List Value} {wc : va_W} {s : State} {H : Heap} {A B : Nat → Prop} (hP : va_P (dC, dI) vwCl wc H) (hK : va_K (dC, dI) vwCl [(cI, .int), (cL, .long)] s) (hD : va_D A wc) (hE : gF tS B s H) (hF : ∀ q, va_A wc H.size q → B q) : ∀ U : State, U.heap = H → s.WarmedH U.vm → gPw dC dI cI cL tS av wc H.size av.toArray U := fun U hU hW =>
  ⟨rfl, by rw [hU], ⟨by rw [hU]; exact hP, va_K.moved hW.alike hK, hD.weaken (fun _ _ _ _ => trivial)⟩, by rw [hU]; exact (hE.warm hW).narrow hF⟩
theorem ite_01 {p : Prop} [Decidable p] (h : (if p then 1 else 0 : Nat) ≠ 0) : (1 : Nat) = if p then 1 else 0 := by
  by_cases q : p
  · rw [if_pos q]
  · rw [if_neg q] at h; exact absurd rfl h
