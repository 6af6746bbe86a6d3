/-! What a throw needs of the machine, and its catching. -/
def xIAE : String := "java/lang/IllegalArgumentException"
def xUOE : String := "java/lang/UnsupportedOperationException"
def xIOB : String := "java/lang/IndexOutOfBoundsException"
def xISE : String := "java/lang/IllegalStateException"
def castWs : List Cond := [.castable "java/lang/IllegalArgumentException" "java/lang/IllegalArgumentException", .castable "java/lang/UnsupportedOperationException" "java/lang/UnsupportedOperationException", .castable "java/lang/IndexOutOfBoundsException" "java/lang/IndexOutOfBoundsException", .castable "java/lang/IllegalStateException" "java/lang/IllegalStateException", .declares ⟨"java/lang/RuntimeException", "<init>", "(Ljava/lang/String;)V"⟩, .declares ⟨"java/lang/Exception", "<init>", "(Ljava/lang/String;)V"⟩, .declares ⟨"java/lang/Throwable", "<init>", "(Ljava/lang/String;)V"⟩]
def strL : List (Nat × String) := [(63, "n is not 1 .. 8"), (70, "the buffer would have more than 64 bytes"), (76, "the buffer has not so many bytes"), (80, "the buffer has no such byte"), (83, "a key has 16, 24 or 32 bytes"), (98, "a tweak has at most 32 bytes"), (100, "a block has 16 bytes"), (111, "a radix is 2 .. 65536"), (121, "a numeral is 0 .. radix - 1"), (123, "the row has 64 numerals"), (126, "the row has not so many numerals"), (131, "the row has no such numeral"), (133, "a way is 0 or 1"), (140, "the row can not be turned"), (151, "what is 0 .. 4")]
def gX (A : Nat → Prop) (U : State) (H : Heap) : Prop := (∀ w ∈ castWs, va_Nw w U) ∧ (∀ q ∈ strL, ∃ sa, vk_R RX7 q.1 q.2 sa U) ∧ vx_Zq Bundle.tN "UNASSIGNED_STACK" Bundle.steD A U H ∧ vx_Zq Bundle.tN "SUPPRESSED_SENTINEL" Bundle.listD A U H ∧ va_Nc "java/lang/UnsupportedOperationException" "java/lang/IllegalArgumentException" U ∧ va_Nc "java/lang/IllegalArgumentException" "java/lang/IndexOutOfBoundsException" U ∧ va_Nc "java/lang/IllegalStateException" "java/lang/IllegalArgumentException" U
theorem gX.at {A : Nat → Prop} {s : State} {H : Heap} {locs : List Loc} (h : gX A s s.heap) (hS : va_S A s.heap H locs) : gX A s H := ⟨h.1, h.2.1, h.2.2.1.kept hS.2.1, h.2.2.2.1.kept hS.2.1, h.2.2.2.2⟩
theorem gX.narrow {A B : Nat → Prop} {U : State} {H : Heap} (h : gX A U H) (hAB : ∀ q, B q → A q) : gX B U H := ⟨h.1, h.2.1, h.2.2.1.narrow hAB, h.2.2.2.1.narrow hAB, h.2.2.2.2⟩
theorem gX_cw {s U : State} (hW : s.WarmedH U.vm) (h : ∀ w ∈ castWs, va_Nw w s) : ∀ w ∈ castWs, va_Nw w U := by
  unfold castWs at h ⊢
  simp only [List.forall_mem_cons] at h ⊢
  obtain ⟨h1, h2, h3, h4, h5, h6, h7, -⟩ := h
  exact ⟨va_Nw.warmC hW h1, va_Nw.warmC hW h2, va_Nw.warmC hW h3, va_Nw.warmC hW h4, va_Nw.warmD hW h5, va_Nw.warmD hW h6, va_Nw.warmD hW h7, fun _ h => absurd h List.not_mem_nil⟩
theorem gX_cs {u U : State} (hv : u.vm = U.vm) (h : ∀ w ∈ castWs, va_Nw w u) : ∀ w ∈ castWs, va_Nw w U := by
  unfold castWs at h ⊢
  simp only [List.forall_mem_cons] at h ⊢
  obtain ⟨h1, h2, h3, h4, h5, h6, h7, -⟩ := h
  exact ⟨va_Nw.same rfl hv h1, va_Nw.same rfl hv h2, va_Nw.same rfl hv h3, va_Nw.same rfl hv h4, va_Nw.same rfl hv h5, va_Nw.same rfl hv h6, va_Nw.same rfl hv h7, fun _ h => absurd h List.not_mem_nil⟩
theorem gX.warm {A : Nat → Prop} {s U : State} {H : Heap} (h : gX A s H) (hW : s.WarmedH U.vm) : gX A U H := ⟨gX_cw hW h.1, fun q hq => (h.2.1 q hq).elim (fun sa e => ⟨sa, vk_R.warm hW e⟩), vx_Zq.moved hW.alike h.2.2.1, vx_Zq.moved hW.alike h.2.2.2.1, va_Nc.moved hW.alike h.2.2.2.2.1, va_Nc.moved hW.alike h.2.2.2.2.2.1, va_Nc.moved hW.alike h.2.2.2.2.2.2⟩
theorem gX.same {A : Nat → Prop} {u U : State} {H : Heap} (h : gX A u H) (hv : u.vm = U.vm) : gX A U H := ⟨gX_cs hv h.1, fun q hq => (h.2.1 q hq).elim (fun sa e => ⟨sa, vk_R.same hv.symm e⟩), vx_Zq.moved (hv ▸ Vm.Alike.refl u.vm) h.2.2.1, vx_Zq.moved (hv ▸ Vm.Alike.refl u.vm) h.2.2.2.1, va_Nc.moved (hv ▸ Vm.Alike.refl u.vm) h.2.2.2.2.1, va_Nc.moved (hv ▸ Vm.Alike.refl u.vm) h.2.2.2.2.2.1, va_Nc.moved (hv ▸ Vm.Alike.refl u.vm) h.2.2.2.2.2.2⟩
def gF (tS : Nat) (A : Nat → Prop) (U : State) (H : Heap) : Prop := gE tS A U H ∧ gX A U H
theorem gF.at {tS : Nat} {A : Nat → Prop} {s : State} {H : Heap} {locs : List Loc} (h : gF tS A s s.heap) (hS : va_S A s.heap H locs) : gF tS A s H := ⟨h.1.at hS, h.2.at hS⟩
theorem gF.narrow {tS : Nat} {A B : Nat → Prop} {U : State} {H : Heap} (h : gF tS A U H) (hAB : ∀ q, B q → A q) : gF tS B U H := ⟨h.1.narrow hAB, h.2.narrow hAB⟩
theorem gF.warm {tS : Nat} {A : Nat → Prop} {s U : State} {H : Heap} (h : gF tS A s H) (hW : s.WarmedH U.vm) : gF tS A U H := ⟨h.1.warm hW, h.2.warm hW⟩
theorem gF.same {tS : Nat} {A : Nat → Prop} {u U : State} {H : Heap} (h : gF tS A u H) (hv : u.vm = U.vm) : gF tS A U H := ⟨h.1.same hv, h.2.same hv⟩
theorem gX.cast {A : Nat → Prop} {U : State} {H : Heap} (h : gX A U H) (E : String) (hE : Cond.castable E E ∈ castWs) {a : Array Value} : (Cond.castable E E).before a U = true := va_Nw.use rfl (h.1 _ hE)
theorem gX.decl {A : Nat → Prop} {U : State} {H : Heap} (h : gX A U H) (y : MethodName) (hE : Cond.declares y ∈ castWs) {a : Array Value} : (Cond.declares y).before a U = true := va_Nw.use rfl (h.1 _ hE)
def gPf (dC : Nat → ClassId) (dI : Nat → Nat → Nat) (cI : ClassId) (tS : Nat) (av : List Value) (ws : va_W) (sz : Nat) : Array Value → State → Prop := va_Pc av (fun U => U.heap.size = sz ∧ gB dC dI cI (fun _ => True) ws U ∧ gF tS (va_A ws sz) U U.heap)
theorem gPf_blind {dC : Nat → ClassId} {dI : Nat → Nat → Nat} {cI : ClassId} {tS : Nat} {av : List Value} {ws : va_W} {sz : Nat} : FrameBlind (gPf dC dI cI tS av ws sz) := fun a U g mk q => by
  obtain ⟨q0, q1, ⟨qP, qK, qD⟩, qE⟩ := q
  exact ⟨q0, q1, ⟨qP, va_K.moved (u := U) (U := U.calling g mk a) (Vm.Alike.refl U.vm) qK, qD⟩, gF.same (u := U) (U := U.calling g mk a) qE rfl⟩
theorem gPf_pre {dC : Nat → ClassId} {dI : Nat → Nat → Nat} {cI : ClassId} {tS : Nat} {av : List Value} {wc : va_W} {s : State} {H : Heap} {A B : Nat → Prop} (hP : va_P (dC, dI) vwCl wc H) (hK : va_K (dC, dI) vwCl [(cI, .int)] s) (hD : va_D A wc) (hE : gF tS B s H) (hF : ∀ q, va_A wc H.size q → B q) : ∀ U : State, U.heap = H → s.WarmedH U.vm → gPf dC dI cI tS av wc H.size av.toArray U := fun U hU hW =>
  ⟨rfl, by rw [hU], ⟨by rw [hU]; exact hP, va_K.moved hW.alike hK, hD.weaken (fun _ _ _ _ => trivial)⟩, by rw [hU]; exact (hE.warm hW).narrow hF⟩
/-- the world behind a throw -/
theorem gB_thr {dC : Nat → ClassId} {dI : Nat → Nat → Nat} {cI : ClassId} {A : Nat → Prop} {ws : va_W} {s t : State} {H : Heap} (hA : s.vm.Alike t.vm) (hq : ∀ q : Nat, q < H.size → t.heap[q]? = H[q]?) (hP : va_P (dC, dI) vwCl ws H) (hK : va_K (dC, dI) vwCl [(cI, .int)] s) (hD : va_D A ws) : gB dC dI cI A ws t := ⟨hP.kept (fun k q hk => hq _ (vx_lt hP hk)), va_K.moved hA hK, hD⟩
theorem va_F_thr {A : Nat → Prop} {s t : State} {H : Heap} {locs : List Loc} (hS : va_S A s.heap H locs) (hz : H.size ≤ t.heap.size) (hq : ∀ q : Nat, q < H.size → t.heap[q]? = H[q]?) : va_F A s t := ⟨Nat.le_trans hS.1 hz, fun q h1 h2 => by rw [hq q (Nat.lt_of_lt_of_le h1 hS.1)]; exact hS.2.1 q h1 h2⟩
