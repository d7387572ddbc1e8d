/-! The law's own calls of the class, with their handlers. lo_: the answer comes back, the heap stays. lx_: X is thrown, caught, and a number comes back; one new cell of six slots. -/
def rcv (o : Nat) (U : State) : Prop := ∃ cellB : Cell, U.heap[o]? = some cellB ∧ cellB.vm.isStatics = false ∧ U.vm.findClass RX8 = some cellB.cls
theorem rcv_warm {o : Nat} {s U : State} (hW : s.WarmedH U.vm) (hU : U.heap = s.heap) (h : rcv o s) : rcv o U := by
  obtain ⟨cb, h1, h2, h3⟩ := h
  exact ⟨cb, by rw [hU]; exact h1, h2, by rw [hW.alike.findClass]; exact h3⟩
theorem rcv_of {o : Nat} {s U : State} {H : Heap} (hW : s.WarmedH U.vm) (hU : U.heap = H) (h : ∃ cellB : Cell, H[o]? = some cellB ∧ cellB.vm.isStatics = false ∧ s.vm.findClass RX8 = some cellB.cls) : rcv o U := by
  obtain ⟨cb, h1, h2, h3⟩ := h
  exact ⟨cb, by rw [hU]; exact h1, h2, by rw [hW.alike.findClass]; exact h3⟩
abbrev xNc (U : State) : Prop := va_Nc "java/util/NoSuchElementException" "java/lang/IllegalArgumentException" U
def lo_i (l : Launch) (y : MethodName) (ws : List Cond) (rm : Room) (av : List Value) (o : Nat) (f : Int32) : Prop := ∀ H0 : Heap, Met l y ws rm (va_Pc av (fun U => U.heap = H0 ∧ rcv o U)) (va_Qi (fun (r : Int32) (_ : Unit) => r = f) (fun _ t => t.heap = H0) (fun q => H0.size ≤ q)) 0 0 (fun q => H0.size ≤ q)
def lo_l (l : Launch) (y : MethodName) (ws : List Cond) (rm : Room) (av : List Value) (o : Nat) (f : Int64) : Prop := ∀ H0 : Heap, Met l y ws rm (va_Pc av (fun U => U.heap = H0 ∧ rcv o U)) (va_Ql (fun (r : Int64) (_ : Unit) => r = f) (fun _ t => t.heap = H0) (fun q => H0.size ≤ q)) 0 0 (fun q => H0.size ≤ q)
def lx_i (l : Launch) (y : MethodName) (ws : List Cond) (rm : Room) (av : List Value) (o : Nat) (X : String) (f : Int32) : Prop := ∀ H0 : Heap, Met l y ws rm (va_Pc av (fun U => U.heap = H0 ∧ rcv o U ∧ xK X U ∧ xNc U)) (va_Qi (fun (r : Int32) (_ : Unit) => r = f) (fun _ _ => True) (fun q => H0.size ≤ q)) 1 6 (fun q => H0.size ≤ q)
def lx_l (l : Launch) (y : MethodName) (ws : List Cond) (rm : Room) (av : List Value) (o : Nat) (X : String) (f : Int64) : Prop := ∀ H0 : Heap, Met l y ws rm (va_Pc av (fun U => U.heap = H0 ∧ rcv o U ∧ xK X U ∧ xNc U)) (va_Ql (fun (r : Int64) (_ : Unit) => r = f) (fun _ _ => True) (fun q => H0.size ≤ q)) 1 6 (fun q => H0.size ≤ q)
theorem xK_at {X : String} {s U : State} {H : Heap} {locs : List Loc} {A0 : Nat → Prop} (h : xK X s) (hA : ∀ q, A0 q → s.heap.size ≤ q) (hS : va_S A0 s.heap H locs) (hW : s.WarmedH U.vm) (hU : U.heap = H) : xK X U := by
  obtain ⟨⟨h1, h2, h3, h4⟩, hu, hn⟩ := h
  have hkeep : ∀ a : Nat, a < s.heap.size → ¬ (fun q => s.heap.size ≤ q) a → H[a]? = s.heap[a]? := fun a h5 h6 => hS.2.1 a h5 (fun z => h6 (hA a z))
  refine ⟨⟨h1.warmD hW, h2.warmD hW, h3.warmD hW, h4.warmC hW⟩, ?_, ?_⟩
  · rw [hU]; exact vx_Zq.moved hW.alike ((hu.kept hkeep).narrow (fun q h5 => Nat.le_trans hS.1 h5))
  · rw [hU]; exact vx_Zq.moved hW.alike ((hn.kept hkeep).narrow (fun q h5 => Nat.le_trans hS.1 h5))
section LX
variable {p : Program} {l : Launch} {e : Env} {R : Room} {s : State} {m : MethodId} {args : Array Value} {below : List Frame} {meth : Method} {c : Code} {H : Heap} {locs : List Loc} {cells slots : Nat} {Q : State → Prop}
variable {y : MethodName} {bytes cc : ByteArray} {maxL nL n index : Nat} {ret : Option FieldType} {ws : List Cond} {rm : Room} {Ts : List Cond} {own C name : String} {As rest : List Value} {pc : Nat} {ls : Array Slot} {st0 : List Value} {b o : Nat} {X : String} {A0 : Nat → Prop} {H0 : Heap} {hh : List (Nat × Nat × Nat × Nat)}
/-- a call on an object that throws X, which this method's own table takes -/
theorem lx_catchi (S : CallFix p m c cc nL s args Ts own) (hM : px_i l y ws rm (.ref b :: As) X) (cw : CallW R s args own C index y bytes maxL ret ws rm 1 6 n) (hrec : ∃ cellB : Cell, s.heap[b]? = some cellB ∧ cellB.vm.isStatics = false ∧ s.vm.findClass C = some cellB.cls) (hn : As.length = n) (hsize : ls.size = nL)
    (hW : 2 * (F0 m pc ls st0).monitorRoom + (rest.map fun v => v.category).sum ≤ 8) (hdg : decode cc pc = .ok (.invokevirtual index, 3)) (hf : 0 + 1 ≤ R.cells ∧ 0 + 6 ≤ R.slots) (hS : va_S (xA s) s.heap s.heap locs) (hst : st0 = As.reverse ++ .ref b :: rest) (hK : xK X s)
    (pre : List ExceptionTableEntry) (x : ExceptionTableEntry) (suf : List ExceptionTableEntry) (hsplit : c.exceptionTable.toList = pre ++ x :: suf) (hpass : ∀ z ∈ pre, covers z pc = false ∨ (z.catchType ≠ 0 ∧ ∃ nm : String, (Cond.classLink own z.catchType nm).before args s = true ∧ va_Nc X nm s)) (hx : covers x pc = true) (h0 : x.catchType ≠ 0) (hlink : (Cond.classLink own x.catchType X).before args s = true)
    (kk : ∀ (q9 : Nat) (H1 : Heap) (locs1 : List Loc), va_S (xA s) s.heap H1 locs1 → W p l e R s m args below meth c H1 locs1 1 6 Q (F0 m x.handlerPc ls [.ref q9])) : W p l e R s m args below meth c s.heap locs 0 0 Q (F0 m pc ls st0) := by
  refine vx_calli (A1 := xA s) (AX := xA s) (vx_runV S (hM s.heap) cw ⟨fun a U g mk q => ⟨q.1, q.2.1, xK_blind U g mk a q.2.2⟩, hrec, fun U hU hW => ⟨rfl, hU, xK_warm hW hU hK⟩⟩ rfl hn hsize hst hW hdg hf) hS (fun q h1 h2 => absurd h1 (Nat.not_lt.mpr h2)) (fun q h => h) (fun q h1 h2 => absurd h1 (Nat.not_lt.mpr h2)) (fun E ce q9 u t H1 locs1 ht1 hvm hpx hBX hz hk hS1 hq hv9 hcl => ?_) (fun r u t H1 locs1 _ _ hp _ _ _ _ => hp.elim)
  have hE : E = X := hBX
  subst hE
  exact vx_catch S.2.2.2.1 pre x suf hsplit hpass hx h0 hlink (hK.1.2.2.2.use rfl) hq hv9 hcl (kk q9 H1 locs1 hS1)
theorem lx_catchl (S : CallFix p m c cc nL s args Ts own) (hM : px_l l y ws rm (.ref b :: As) X) (cw : CallW R s args own C index y bytes maxL ret ws rm 1 6 n) (hrec : ∃ cellB : Cell, s.heap[b]? = some cellB ∧ cellB.vm.isStatics = false ∧ s.vm.findClass C = some cellB.cls) (hn : As.length = n) (hsize : ls.size = nL)
    (hW : 2 * (F0 m pc ls st0).monitorRoom + (rest.map fun v => v.category).sum ≤ 8) (hdg : decode cc pc = .ok (.invokevirtual index, 3)) (hf : 0 + 1 ≤ R.cells ∧ 0 + 6 ≤ R.slots) (hS : va_S (xA s) s.heap s.heap locs) (hst : st0 = As.reverse ++ .ref b :: rest) (hK : xK X s)
    (pre : List ExceptionTableEntry) (x : ExceptionTableEntry) (suf : List ExceptionTableEntry) (hsplit : c.exceptionTable.toList = pre ++ x :: suf) (hpass : ∀ z ∈ pre, covers z pc = false ∨ (z.catchType ≠ 0 ∧ ∃ nm : String, (Cond.classLink own z.catchType nm).before args s = true ∧ va_Nc X nm s)) (hx : covers x pc = true) (h0 : x.catchType ≠ 0) (hlink : (Cond.classLink own x.catchType X).before args s = true)
    (kk : ∀ (q9 : Nat) (H1 : Heap) (locs1 : List Loc), va_S (xA s) s.heap H1 locs1 → W p l e R s m args below meth c H1 locs1 1 6 Q (F0 m x.handlerPc ls [.ref q9])) : W p l e R s m args below meth c s.heap locs 0 0 Q (F0 m pc ls st0) := by
  refine vx_calll (A1 := xA s) (AX := xA s) (vx_runV S (hM s.heap) cw ⟨fun a U g mk q => ⟨q.1, q.2.1, xK_blind U g mk a q.2.2⟩, hrec, fun U hU hW => ⟨rfl, hU, xK_warm hW hU hK⟩⟩ rfl hn hsize hst hW hdg hf) hS (fun q h1 h2 => absurd h1 (Nat.not_lt.mpr h2)) (fun q h => h) (fun q h1 h2 => absurd h1 (Nat.not_lt.mpr h2)) (fun E ce q9 u t H1 locs1 ht1 hvm hpx hBX hz hk hS1 hq hv9 hcl => ?_) (fun r u t H1 locs1 _ _ hp _ _ _ _ => hp.elim)
  have hE : E = X := hBX
  subst hE
  exact vx_catch S.2.2.2.1 pre x suf hsplit hpass hx h0 hlink (hK.1.2.2.2.use rfl) hq hv9 hcl (kk q9 H1 locs1 hS1)
/-- the law's call of such a method -/
theorem lo_calli {f : Int32} (S : CallFix p m c cc nL s args Ts own) (hM : lo_i l y ws rm As o f) (cw : vx_CSW R s args own index y bytes maxL ret hh ws rm 0 0 n) (hrec : ∃ cellB : Cell, H[o]? = some cellB ∧ cellB.vm.isStatics = false ∧ s.vm.findClass RX8 = some cellB.cls) (hn : As.length = n) (hsize : ls.size = nL)
    (hW : 2 * (F0 m pc ls st0).monitorRoom + (rest.map fun v => v.category).sum ≤ 8) (hdg : decode cc pc = .ok (.invokestatic index, 3)) (hf : cells + 0 ≤ R.cells ∧ slots + 0 ≤ R.slots) (hS : va_S A0 H0 H locs) (hA : ∀ q, H0.size ≤ q → A0 q) (hst : st0 = As.reverse ++ rest)
    (kk : ∀ locs1 : List Loc, va_S A0 H0 H locs1 → W p l e R s m args below meth c H locs1 cells slots Q (F0 m (pc + 3) ls (.int f :: rest))) : W p l e R s m args below meth c H locs cells slots Q (F0 m pc ls st0) := by
  refine va_calli (A1 := fun q => H.size ≤ q) (vx_runSW S (hM H) cw ⟨fun a U g mk q => ⟨q.1, q.2⟩, fun U hU hW => ⟨rfl, hU, rcv_of hW hU hrec⟩⟩ rfl hn hsize hst hW hdg hf) hS (fun q h1 h2 => absurd h1 (Nat.not_lt.mpr h2)) (fun q h => hA q (Nat.le_trans hS.1 h)) (fun r u t H1 locs1 ht hvm hp hB hz hk hS1 => ?_)
  have e1 : H1 = H := ht.symm.trans hB
  subst e1
  have e2 : r = f := hp
  subst e2
  exact kk locs1 hS1
theorem lo_calll {f : Int64} (S : CallFix p m c cc nL s args Ts own) (hM : lo_l l y ws rm As o f) (cw : vx_CSW R s args own index y bytes maxL ret hh ws rm 0 0 n) (hrec : ∃ cellB : Cell, H[o]? = some cellB ∧ cellB.vm.isStatics = false ∧ s.vm.findClass RX8 = some cellB.cls) (hn : As.length = n) (hsize : ls.size = nL)
    (hW : 2 * (F0 m pc ls st0).monitorRoom + (rest.map fun v => v.category).sum ≤ 8) (hdg : decode cc pc = .ok (.invokestatic index, 3)) (hf : cells + 0 ≤ R.cells ∧ slots + 0 ≤ R.slots) (hS : va_S A0 H0 H locs) (hA : ∀ q, H0.size ≤ q → A0 q) (hst : st0 = As.reverse ++ rest)
    (kk : ∀ locs1 : List Loc, va_S A0 H0 H locs1 → W p l e R s m args below meth c H locs1 cells slots Q (F0 m (pc + 3) ls (.long f :: rest))) : W p l e R s m args below meth c H locs cells slots Q (F0 m pc ls st0) := by
  refine va_calll (A1 := fun q => H.size ≤ q) (vx_runSW S (hM H) cw ⟨fun a U g mk q => ⟨q.1, q.2⟩, fun U hU hW => ⟨rfl, hU, rcv_of hW hU hrec⟩⟩ rfl hn hsize hst hW hdg hf) hS (fun q h1 h2 => absurd h1 (Nat.not_lt.mpr h2)) (fun q h => hA q (Nat.le_trans hS.1 h)) (fun r u t H1 locs1 ht hvm hp hB hz hk hS1 => ?_)
  have e1 : H1 = H := ht.symm.trans hB
  subst e1
  have e2 : r = f := hp
  subst e2
  exact kk locs1 hS1
theorem lx_calli {f : Int32} (S : CallFix p m c cc nL s args Ts own) (hM : lx_i l y ws rm As o X f) (cw : vx_CSW R s args own index y bytes maxL ret hh ws rm 1 6 n) (hrec : ∃ cellB : Cell, H[o]? = some cellB ∧ cellB.vm.isStatics = false ∧ s.vm.findClass RX8 = some cellB.cls) (hn : As.length = n) (hsize : ls.size = nL)
    (hW : 2 * (F0 m pc ls st0).monitorRoom + (rest.map fun v => v.category).sum ≤ 8) (hdg : decode cc pc = .ok (.invokestatic index, 3)) (hf : cells + 1 ≤ R.cells ∧ slots + 6 ≤ R.slots) (hS : va_S (xA s) s.heap H locs) (hst : st0 = As.reverse ++ rest) (hK : xK X s) (hN : xNc s)
    (kk : ∀ (H1 : Heap) (locs1 : List Loc), (∀ q : Nat, q < H.size → H1[q]? = H[q]?) → va_S (xA s) s.heap H1 locs1 → W p l e R s m args below meth c H1 locs1 (cells + 1) (slots + 6) Q (F0 m (pc + 3) ls (.int f :: rest))) : W p l e R s m args below meth c H locs cells slots Q (F0 m pc ls st0) := by
  refine va_calli (A1 := fun q => H.size ≤ q) (vx_runSW S (hM H) cw ⟨fun a U g mk q => ⟨q.1, q.2.1, q.2.2.1, xK_blind U g mk a q.2.2.2.1, va_Nc.moved (u := U) (U := U.calling g mk a) (Vm.Alike.refl U.vm) q.2.2.2.2⟩, fun U hU hW => ⟨rfl, hU, rcv_of hW hU hrec, xK_at hK (fun q h => h) hS hW hU, hN.moved hW.alike⟩⟩ rfl hn hsize hst hW hdg hf) hS (fun q h1 h2 => absurd h1 (Nat.not_lt.mpr h2)) (fun q h => Nat.le_trans hS.1 h) (fun r u t H1 locs1 ht hvm hp hB hz hk hS1 => ?_)
  have e2 : r = f := hp
  subst e2
  exact kk H1 locs1 (fun q h => hk q h (Nat.not_le.mpr h)) hS1
theorem lx_calll {f : Int64} (S : CallFix p m c cc nL s args Ts own) (hM : lx_l l y ws rm As o X f) (cw : vx_CSW R s args own index y bytes maxL ret hh ws rm 1 6 n) (hrec : ∃ cellB : Cell, H[o]? = some cellB ∧ cellB.vm.isStatics = false ∧ s.vm.findClass RX8 = some cellB.cls) (hn : As.length = n) (hsize : ls.size = nL)
    (hW : 2 * (F0 m pc ls st0).monitorRoom + (rest.map fun v => v.category).sum ≤ 8) (hdg : decode cc pc = .ok (.invokestatic index, 3)) (hf : cells + 1 ≤ R.cells ∧ slots + 6 ≤ R.slots) (hS : va_S (xA s) s.heap H locs) (hst : st0 = As.reverse ++ rest) (hK : xK X s) (hN : xNc s)
    (kk : ∀ (H1 : Heap) (locs1 : List Loc), (∀ q : Nat, q < H.size → H1[q]? = H[q]?) → va_S (xA s) s.heap H1 locs1 → W p l e R s m args below meth c H1 locs1 (cells + 1) (slots + 6) Q (F0 m (pc + 3) ls (.long f :: rest))) : W p l e R s m args below meth c H locs cells slots Q (F0 m pc ls st0) := by
  refine va_calll (A1 := fun q => H.size ≤ q) (vx_runSW S (hM H) cw ⟨fun a U g mk q => ⟨q.1, q.2.1, q.2.2.1, xK_blind U g mk a q.2.2.2.1, va_Nc.moved (u := U) (U := U.calling g mk a) (Vm.Alike.refl U.vm) q.2.2.2.2⟩, fun U hU hW => ⟨rfl, hU, rcv_of hW hU hrec, xK_at hK (fun q h => h) hS hW hU, hN.moved hW.alike⟩⟩ rfl hn hsize hst hW hdg hf) hS (fun q h1 h2 => absurd h1 (Nat.not_lt.mpr h2)) (fun q h => Nat.le_trans hS.1 h) (fun r u t H1 locs1 ht hvm hp hB hz hk hS1 => ?_)
  have e2 : r = f := hp
  subst e2
  exact kk H1 locs1 (fun q h => hk q h (Nat.not_le.mpr h)) hS1
end LX
set_option maxHeartbeats 4000000 in
set_option maxRecDepth 100000 in
theorem c_L_word (l : Launch) (o : Nat) (v : Int32) (h1 : ¬ v.toInt64 < 0) (h2 : ¬ 65535 < v.toInt64) : lo_l l yL_word wsL_word ({ frames := 5, cells := 0, slots := 0, locals := 120 } : Room) [.ref o, .int v] o (fOf v) := by
  intro H0
  refine va_MetW (cc := cL_word) (maxL := 3) (ret := (some .long)) (hh := [(0, 5, 6, 15)]) (by decide) rfl ?_
  intro p e s m args below meth c s₁ B hml hv
  obtain ⟨rfl, rfl, hrec⟩ := hv
  have hx := B.exec
  have hb := B.bytes
  have hr := B.returns
  have hts := atoms_spec (ws := wsL_word) B.pre
  have hown : s.vm.findClass RL = some m.cls := findClass_of_methodNamed B.named
  have hlocks := B.notSynchronized
  have hS : va_S (xA s) s.heap s.heap [] := va_S.rf
  have hA : ∀ q : Nat, s.heap.size ≤ q → xA s q := fun _ h => h
  have hl := lv_entry ([.ref o, .int v]) (n := 3) (Nat.le_of_ble_eq_true rfl)
  rw [lg_entry_eq]
  generalize (lg_sl ([.ref o, .int v]) ++ List.replicate (3 - (lg_sl ([.ref o, .int v])).length) Slot.unset).toArray = ls at hl ⊢
  have hl : lv_has ls 3 [(0, .ref o), (1, .int v)] := hl
  refine lv_aload_n hx hb dL_word_0 rfl (lv_at hl 0 rfl) ?_
  refine lv_iload_n hx hb dL_word_1 rfl (lv_at hl 1 rfl) ?_
  refine pu_callVl (As := [.int v]) (rest := []) ⟨hx, hb, hml, hown, hts⟩ (c_X8_word l o v h1 h2) (cwV 1 hts gL_word_X8_word rfl rfl rfl (by decide +kernel) ⟨(Nat.le_of_ble_eq_true rfl), (Nat.le_of_ble_eq_true rfl)⟩) hrec rfl hl.1 (lv_room (Nat.le_of_ble_eq_true rfl)) dL_word_2 ⟨Nat.zero_le _, Nat.zero_le _⟩ hS hA rfl (fun locs hS => ?_)
  exact W.lret (v := fOf v) hx hb hr (fun t ht hW => ⟨⟨fOf v, (), rfl, rfl, ht⟩, hS.F ht⟩) hS.2.2 dL_word_5
set_option maxHeartbeats 4000000 in
set_option maxRecDepth 100000 in
theorem x_L_word (l : Launch) (hstk : l.stackTraces = false) (o : Nat) (v : Int32) (h : v.toInt64 < 0 ∨ 65535 < v.toInt64) : lx_l l yL_word wsL_word ({ frames := 8, cells := 1, slots := 6, locals := 127 } : Room) [.ref o, .int v] o "java/lang/IllegalArgumentException" (-900001) := by
  intro H0
  refine va_MetW (cc := cL_word) (maxL := 3) (ret := (some .long)) (hh := [(0, 5, 6, 15)]) (by decide) rfl ?_
  intro p e s m args below meth c s₁ B hml hv
  obtain ⟨rfl, rfl, hrec, hX, hNc⟩ := hv
  have hx := B.exec
  have hb := B.bytes
  have hr := B.returns
  have hts := atoms_spec (ws := wsL_word) B.pre
  have hown : s.vm.findClass RL = some m.cls := findClass_of_methodNamed B.named
  have hlocks := B.notSynchronized
  have hS : va_S (xA s) s.heap s.heap [] := va_S.rf
  have hA : ∀ q : Nat, s.heap.size ≤ q → xA s q := fun _ h => h
  have hl := lv_entry ([.ref o, .int v]) (n := 3) (Nat.le_of_ble_eq_true rfl)
  rw [lg_entry_eq]
  generalize (lg_sl ([.ref o, .int v]) ++ List.replicate (3 - (lg_sl ([.ref o, .int v])).length) Slot.unset).toArray = ls at hl ⊢
  have hl : lv_has ls 3 [(0, .ref o), (1, .int v)] := hl
  have htab : c.exceptionTable.toList = _ := vx_table (x := yL_word) B (hts _ List.mem_cons_self)
  refine lv_aload_n hx hb dL_word_0 rfl (lv_at hl 0 rfl) ?_
  refine lv_iload_n hx hb dL_word_1 rfl (lv_at hl 1 rfl) ?_
  refine lx_catchl (As := [.int v]) (rest := []) ⟨hx, hb, hml, hown, hts⟩ (x_X8_word l hstk o v h) (cwV 1 hts gL_word_X8_word rfl rfl rfl (by decide +kernel) ⟨(Nat.le_of_ble_eq_true rfl), (Nat.le_of_ble_eq_true rfl)⟩) hrec rfl hl.1 (lv_room (Nat.le_of_ble_eq_true rfl)) dL_word_2 ⟨(Nat.le_of_ble_eq_true rfl), (Nat.le_of_ble_eq_true rfl)⟩ hS rfl hX [] ⟨0, 5, 6, 15⟩ [] htab (fun z hz => absurd hz List.not_mem_nil) (by decide) (by decide) (hts (.classLink RL 15 "java/lang/IllegalArgumentException") (by decide +kernel)) (fun q9 H locs hS => ?_)
  refine W.eq (g2 := F0 m 6 ls [.ref q9]) rfl ?_
  refine lv_astore_n (lv' := [(2, .ref q9), (0, .ref o), (1, .int v)]) hx hb dL_word_6 rfl hl (by decide) rfl (fun ls hl => ?_)
  refine lv_ldc2 (v := (-900001)) hx hb hown (hts (.constantLong RL 17 (-900001)) (by decide +kernel)) dL_word_7 ?_
  exact W.lret (v := (-900001)) hx hb hr (fun t ht hW => ⟨⟨(-900001), (), rfl, rfl, trivial⟩, hS.F ht⟩) hS.2.2 dL_word_10
set_option maxHeartbeats 4000000 in
set_option maxRecDepth 100000 in
theorem c_L_mend (l : Launch) (o : Nat) (w : Int64) (k : Int32) (h1 : ¬ w < 0) (h2 : ¬ 4294967295 < w) (h3 : ¬ k.toInt64 < 0) (h4 : ¬ 255 < k.toInt64) (hne : ¬ fRep w k = -1) : lo_i l yL_mend wsL_mend ({ frames := 6, cells := 0, slots := 0, locals := 152 } : Room) [.ref o, .long w, .int k] o (fVal (fRep w k)) := by
  intro H0
  refine va_MetW (cc := cL_mend) (maxL := 5) (ret := (some .int)) (hh := [(0, 6, 7, 15), (0, 6, 12, 24)]) (by decide) rfl ?_
  intro p e s m args below meth c s₁ B hml hv
  obtain ⟨rfl, rfl, hrec⟩ := hv
  have hx := B.exec
  have hb := B.bytes
  have hr := B.returns
  have hts := atoms_spec (ws := wsL_mend) B.pre
  have hown : s.vm.findClass RL = some m.cls := findClass_of_methodNamed B.named
  have hlocks := B.notSynchronized
  have hS : va_S (xA s) s.heap s.heap [] := va_S.rf
  have hA : ∀ q : Nat, s.heap.size ≤ q → xA s q := fun _ h => h
  have hl := lv_entry ([.ref o, .long w, .int k]) (n := 5) (Nat.le_of_ble_eq_true rfl)
  rw [lg_entry_eq]
  generalize (lg_sl ([.ref o, .long w, .int k]) ++ List.replicate (5 - (lg_sl ([.ref o, .long w, .int k])).length) Slot.unset).toArray = ls at hl ⊢
  have hl : lv_has ls 5 [(0, .ref o), (1, .long w), (3, .int k)] := hl
  refine lv_aload_n hx hb dL_mend_0 rfl (lv_at hl 0 rfl) ?_
  refine lv_lload_n hx hb dL_mend_1 rfl (lv_at hl 1 rfl) ?_
  refine lv_iload_n hx hb dL_mend_2 rfl (lv_at hl 2 rfl) ?_
  refine pu_callVi (As := [.long w, .int k]) (rest := []) ⟨hx, hb, hml, hown, hts⟩ (c_X8_mend l o w k h1 h2 h3 h4 hne) (cwV 2 hts gL_mend_X8_mend rfl rfl rfl (by decide +kernel) ⟨(Nat.le_of_ble_eq_true rfl), (Nat.le_of_ble_eq_true rfl)⟩) hrec rfl hl.1 (lv_room (Nat.le_of_ble_eq_true rfl)) dL_mend_3 ⟨Nat.zero_le _, Nat.zero_le _⟩ hS hA rfl (fun locs hS => ?_)
  exact W.iret (v := fVal (fRep w k)) hx hb hr (fun t ht hW => ⟨⟨fVal (fRep w k), (), rfl, rfl, ht⟩, hS.F ht⟩) hS.2.2 dL_mend_6
set_option maxHeartbeats 4000000 in
set_option maxRecDepth 100000 in
theorem x_L_mend_1 (l : Launch) (hstk : l.stackTraces = false) (o : Nat) (w : Int64) (k : Int32) (h : w < 0 ∨ 4294967295 < w) : lx_i l yL_mend wsL_mend ({ frames := 9, cells := 1, slots := 6, locals := 153 } : Room) [.ref o, .long w, .int k] o "java/lang/IllegalArgumentException" (-900001) := by
  intro H0
  refine va_MetW (cc := cL_mend) (maxL := 5) (ret := (some .int)) (hh := [(0, 6, 7, 15), (0, 6, 12, 24)]) (by decide) rfl ?_
  intro p e s m args below meth c s₁ B hml hv
  obtain ⟨rfl, rfl, hrec, hX, hNc⟩ := hv
  have hx := B.exec
  have hb := B.bytes
  have hr := B.returns
  have hts := atoms_spec (ws := wsL_mend) B.pre
  have hown : s.vm.findClass RL = some m.cls := findClass_of_methodNamed B.named
  have hlocks := B.notSynchronized
  have hS : va_S (xA s) s.heap s.heap [] := va_S.rf
  have hA : ∀ q : Nat, s.heap.size ≤ q → xA s q := fun _ h => h
  have hl := lv_entry ([.ref o, .long w, .int k]) (n := 5) (Nat.le_of_ble_eq_true rfl)
  rw [lg_entry_eq]
  generalize (lg_sl ([.ref o, .long w, .int k]) ++ List.replicate (5 - (lg_sl ([.ref o, .long w, .int k])).length) Slot.unset).toArray = ls at hl ⊢
  have hl : lv_has ls 5 [(0, .ref o), (1, .long w), (3, .int k)] := hl
  have htab : c.exceptionTable.toList = _ := vx_table (x := yL_mend) B (hts _ List.mem_cons_self)
  refine lv_aload_n hx hb dL_mend_0 rfl (lv_at hl 0 rfl) ?_
  refine lv_lload_n hx hb dL_mend_1 rfl (lv_at hl 1 rfl) ?_
  refine lv_iload_n hx hb dL_mend_2 rfl (lv_at hl 2 rfl) ?_
  refine lx_catchi (As := [.long w, .int k]) (rest := []) ⟨hx, hb, hml, hown, hts⟩ (x_X8_mend l hstk o w k _ (x_X8_repairedOrThrow_1 l hstk w k h)) (cwV 2 hts gL_mend_X8_mend rfl rfl rfl (by decide +kernel) ⟨(Nat.le_of_ble_eq_true rfl), (Nat.le_of_ble_eq_true rfl)⟩) hrec rfl hl.1 (lv_room (Nat.le_of_ble_eq_true rfl)) dL_mend_3 ⟨(Nat.le_of_ble_eq_true rfl), (Nat.le_of_ble_eq_true rfl)⟩ hS rfl hX [] ⟨0, 6, 7, 15⟩ [⟨0, 6, 12, 24⟩] htab (fun z hz => absurd hz List.not_mem_nil) (by decide) (by decide) (hts (.classLink RL 15 "java/lang/IllegalArgumentException") (by decide +kernel)) (fun q9 H locs hS => ?_)
  refine W.eq (g2 := F0 m 7 ls [.ref q9]) rfl ?_
  refine lv_astore (lv' := [(4, .ref q9), (0, .ref o), (1, .long w), (3, .int k)]) hx hb dL_mend_7 hl (by decide) rfl (fun ls hl => ?_)
  refine lv_ldc (v := (-900001)) hx hb hown (hts (.constant RL 23 (-900001)) (by decide +kernel)) dL_mend_9 ?_
  exact W.iret (v := (-900001)) hx hb hr (fun t ht hW => ⟨⟨(-900001), (), rfl, rfl, trivial⟩, hS.F ht⟩) hS.2.2 dL_mend_11
set_option maxHeartbeats 4000000 in
set_option maxRecDepth 100000 in
theorem x_L_mend_2 (l : Launch) (hstk : l.stackTraces = false) (o : Nat) (w : Int64) (k : Int32) (h1 : ¬ w < 0) (h2 : ¬ 4294967295 < w) (h : k.toInt64 < 0 ∨ 255 < k.toInt64) : lx_i l yL_mend wsL_mend ({ frames := 9, cells := 1, slots := 6, locals := 153 } : Room) [.ref o, .long w, .int k] o "java/lang/IllegalArgumentException" (-900001) := by
  intro H0
  refine va_MetW (cc := cL_mend) (maxL := 5) (ret := (some .int)) (hh := [(0, 6, 7, 15), (0, 6, 12, 24)]) (by decide) rfl ?_
  intro p e s m args below meth c s₁ B hml hv
  obtain ⟨rfl, rfl, hrec, hX, hNc⟩ := hv
  have hx := B.exec
  have hb := B.bytes
  have hr := B.returns
  have hts := atoms_spec (ws := wsL_mend) B.pre
  have hown : s.vm.findClass RL = some m.cls := findClass_of_methodNamed B.named
  have hlocks := B.notSynchronized
  have hS : va_S (xA s) s.heap s.heap [] := va_S.rf
  have hA : ∀ q : Nat, s.heap.size ≤ q → xA s q := fun _ h => h
  have hl := lv_entry ([.ref o, .long w, .int k]) (n := 5) (Nat.le_of_ble_eq_true rfl)
  rw [lg_entry_eq]
  generalize (lg_sl ([.ref o, .long w, .int k]) ++ List.replicate (5 - (lg_sl ([.ref o, .long w, .int k])).length) Slot.unset).toArray = ls at hl ⊢
  have hl : lv_has ls 5 [(0, .ref o), (1, .long w), (3, .int k)] := hl
  have htab : c.exceptionTable.toList = _ := vx_table (x := yL_mend) B (hts _ List.mem_cons_self)
  refine lv_aload_n hx hb dL_mend_0 rfl (lv_at hl 0 rfl) ?_
  refine lv_lload_n hx hb dL_mend_1 rfl (lv_at hl 1 rfl) ?_
  refine lv_iload_n hx hb dL_mend_2 rfl (lv_at hl 2 rfl) ?_
  refine lx_catchi (As := [.long w, .int k]) (rest := []) ⟨hx, hb, hml, hown, hts⟩ (x_X8_mend l hstk o w k _ (x_X8_repairedOrThrow_2 l hstk w k h1 h2 h)) (cwV 2 hts gL_mend_X8_mend rfl rfl rfl (by decide +kernel) ⟨(Nat.le_of_ble_eq_true rfl), (Nat.le_of_ble_eq_true rfl)⟩) hrec rfl hl.1 (lv_room (Nat.le_of_ble_eq_true rfl)) dL_mend_3 ⟨(Nat.le_of_ble_eq_true rfl), (Nat.le_of_ble_eq_true rfl)⟩ hS rfl hX [] ⟨0, 6, 7, 15⟩ [⟨0, 6, 12, 24⟩] htab (fun z hz => absurd hz List.not_mem_nil) (by decide) (by decide) (hts (.classLink RL 15 "java/lang/IllegalArgumentException") (by decide +kernel)) (fun q9 H locs hS => ?_)
  refine W.eq (g2 := F0 m 7 ls [.ref q9]) rfl ?_
  refine lv_astore (lv' := [(4, .ref q9), (0, .ref o), (1, .long w), (3, .int k)]) hx hb dL_mend_7 hl (by decide) rfl (fun ls hl => ?_)
  refine lv_ldc (v := (-900001)) hx hb hown (hts (.constant RL 23 (-900001)) (by decide +kernel)) dL_mend_9 ?_
  exact W.iret (v := (-900001)) hx hb hr (fun t ht hW => ⟨⟨(-900001), (), rfl, rfl, trivial⟩, hS.F ht⟩) hS.2.2 dL_mend_11
set_option maxHeartbeats 4000000 in
set_option maxRecDepth 100000 in
theorem x_L_mend_3 (l : Launch) (hstk : l.stackTraces = false) (o : Nat) (w : Int64) (k : Int32) (h1 : ¬ w < 0) (h2 : ¬ 4294967295 < w) (h3 : ¬ k.toInt64 < 0) (h4 : ¬ 255 < k.toInt64) (he : fRep w k = -1) : lx_i l yL_mend wsL_mend ({ frames := 9, cells := 1, slots := 6, locals := 153 } : Room) [.ref o, .long w, .int k] o "java/util/NoSuchElementException" (-900002) := by
  intro H0
  refine va_MetW (cc := cL_mend) (maxL := 5) (ret := (some .int)) (hh := [(0, 6, 7, 15), (0, 6, 12, 24)]) (by decide) rfl ?_
  intro p e s m args below meth c s₁ B hml hv
  obtain ⟨rfl, rfl, hrec, hX, hNc⟩ := hv
  have hx := B.exec
  have hb := B.bytes
  have hr := B.returns
  have hts := atoms_spec (ws := wsL_mend) B.pre
  have hown : s.vm.findClass RL = some m.cls := findClass_of_methodNamed B.named
  have hlocks := B.notSynchronized
  have hS : va_S (xA s) s.heap s.heap [] := va_S.rf
  have hA : ∀ q : Nat, s.heap.size ≤ q → xA s q := fun _ h => h
  have hl := lv_entry ([.ref o, .long w, .int k]) (n := 5) (Nat.le_of_ble_eq_true rfl)
  rw [lg_entry_eq]
  generalize (lg_sl ([.ref o, .long w, .int k]) ++ List.replicate (5 - (lg_sl ([.ref o, .long w, .int k])).length) Slot.unset).toArray = ls at hl ⊢
  have hl : lv_has ls 5 [(0, .ref o), (1, .long w), (3, .int k)] := hl
  have htab : c.exceptionTable.toList = _ := vx_table (x := yL_mend) B (hts _ List.mem_cons_self)
  refine lv_aload_n hx hb dL_mend_0 rfl (lv_at hl 0 rfl) ?_
  refine lv_lload_n hx hb dL_mend_1 rfl (lv_at hl 1 rfl) ?_
  refine lv_iload_n hx hb dL_mend_2 rfl (lv_at hl 2 rfl) ?_
  refine lx_catchi (As := [.long w, .int k]) (rest := []) ⟨hx, hb, hml, hown, hts⟩ (x_X8_mend l hstk o w k _ (x_X8_repairedOrThrow_3 l hstk w k h1 h2 h3 h4 he)) (cwV 2 hts gL_mend_X8_mend rfl rfl rfl (by decide +kernel) ⟨(Nat.le_of_ble_eq_true rfl), (Nat.le_of_ble_eq_true rfl)⟩) hrec rfl hl.1 (lv_room (Nat.le_of_ble_eq_true rfl)) dL_mend_3 ⟨(Nat.le_of_ble_eq_true rfl), (Nat.le_of_ble_eq_true rfl)⟩ hS rfl hX [⟨0, 6, 7, 15⟩] ⟨0, 6, 12, 24⟩ [] htab (fun z hz => by rcases List.mem_singleton.mp hz with rfl; exact Or.inr ⟨by decide, "java/lang/IllegalArgumentException", hts (.classLink RL 15 "java/lang/IllegalArgumentException") (by decide +kernel), hNc⟩) (by decide) (by decide) (hts (.classLink RL 24 "java/util/NoSuchElementException") (by decide +kernel)) (fun q9 H locs hS => ?_)
  refine W.eq (g2 := F0 m 12 ls [.ref q9]) rfl ?_
  refine lv_astore (lv' := [(4, .ref q9), (0, .ref o), (1, .long w), (3, .int k)]) hx hb dL_mend_12 hl (by decide) rfl (fun ls hl => ?_)
  refine lv_ldc (v := (-900002)) hx hb hown (hts (.constant RL 26 (-900002)) (by decide +kernel)) dL_mend_14 ?_
  exact W.iret (v := (-900002)) hx hb hr (fun t ht hW => ⟨⟨(-900002), (), rfl, rfl, trivial⟩, hS.F ht⟩) hS.2.2 dL_mend_16
set_option maxHeartbeats 4000000 in
set_option maxRecDepth 100000 in
theorem c_L_mended (l : Launch) (o : Nat) (w : Int64) (k : Int32) (h1 : ¬ w < 0) (h2 : ¬ 4294967295 < w) (h3 : ¬ k.toInt64 < 0) (h4 : ¬ 255 < k.toInt64) (hne : ¬ fRep w k = -1) : lo_i l yL_mended wsL_mended ({ frames := 6, cells := 0, slots := 0, locals := 152 } : Room) [.ref o, .long w, .int k] o (fDiff w (fRep w k)) := by
  intro H0
  refine va_MetW (cc := cL_mended) (maxL := 5) (ret := (some .int)) (hh := [(0, 6, 7, 15), (0, 6, 12, 24)]) (by decide) rfl ?_
  intro p e s m args below meth c s₁ B hml hv
  obtain ⟨rfl, rfl, hrec⟩ := hv
  have hx := B.exec
  have hb := B.bytes
  have hr := B.returns
  have hts := atoms_spec (ws := wsL_mended) B.pre
  have hown : s.vm.findClass RL = some m.cls := findClass_of_methodNamed B.named
  have hlocks := B.notSynchronized
  have hS : va_S (xA s) s.heap s.heap [] := va_S.rf
  have hA : ∀ q : Nat, s.heap.size ≤ q → xA s q := fun _ h => h
  have hl := lv_entry ([.ref o, .long w, .int k]) (n := 5) (Nat.le_of_ble_eq_true rfl)
  rw [lg_entry_eq]
  generalize (lg_sl ([.ref o, .long w, .int k]) ++ List.replicate (5 - (lg_sl ([.ref o, .long w, .int k])).length) Slot.unset).toArray = ls at hl ⊢
  have hl : lv_has ls 5 [(0, .ref o), (1, .long w), (3, .int k)] := hl
  refine lv_aload_n hx hb dL_mended_0 rfl (lv_at hl 0 rfl) ?_
  refine lv_lload_n hx hb dL_mended_1 rfl (lv_at hl 1 rfl) ?_
  refine lv_iload_n hx hb dL_mended_2 rfl (lv_at hl 2 rfl) ?_
  refine pu_callVi (As := [.long w, .int k]) (rest := []) ⟨hx, hb, hml, hown, hts⟩ (c_X8_mended l o w k h1 h2 h3 h4 hne) (cwV 2 hts gL_mended_X8_mended rfl rfl rfl (by decide +kernel) ⟨(Nat.le_of_ble_eq_true rfl), (Nat.le_of_ble_eq_true rfl)⟩) hrec rfl hl.1 (lv_room (Nat.le_of_ble_eq_true rfl)) dL_mended_3 ⟨Nat.zero_le _, Nat.zero_le _⟩ hS hA rfl (fun locs hS => ?_)
  exact W.iret (v := fDiff w (fRep w k)) hx hb hr (fun t ht hW => ⟨⟨fDiff w (fRep w k), (), rfl, rfl, ht⟩, hS.F ht⟩) hS.2.2 dL_mended_6
set_option maxHeartbeats 4000000 in
set_option maxRecDepth 100000 in
theorem x_L_mended_1 (l : Launch) (hstk : l.stackTraces = false) (o : Nat) (w : Int64) (k : Int32) (h : w < 0 ∨ 4294967295 < w) : lx_i l yL_mended wsL_mended ({ frames := 9, cells := 1, slots := 6, locals := 153 } : Room) [.ref o, .long w, .int k] o "java/lang/IllegalArgumentException" (-900001) := by
  intro H0
  refine va_MetW (cc := cL_mended) (maxL := 5) (ret := (some .int)) (hh := [(0, 6, 7, 15), (0, 6, 12, 24)]) (by decide) rfl ?_
  intro p e s m args below meth c s₁ B hml hv
  obtain ⟨rfl, rfl, hrec, hX, hNc⟩ := hv
  have hx := B.exec
  have hb := B.bytes
  have hr := B.returns
  have hts := atoms_spec (ws := wsL_mended) B.pre
  have hown : s.vm.findClass RL = some m.cls := findClass_of_methodNamed B.named
  have hlocks := B.notSynchronized
  have hS : va_S (xA s) s.heap s.heap [] := va_S.rf
  have hA : ∀ q : Nat, s.heap.size ≤ q → xA s q := fun _ h => h
  have hl := lv_entry ([.ref o, .long w, .int k]) (n := 5) (Nat.le_of_ble_eq_true rfl)
  rw [lg_entry_eq]
  generalize (lg_sl ([.ref o, .long w, .int k]) ++ List.replicate (5 - (lg_sl ([.ref o, .long w, .int k])).length) Slot.unset).toArray = ls at hl ⊢
  have hl : lv_has ls 5 [(0, .ref o), (1, .long w), (3, .int k)] := hl
  have htab : c.exceptionTable.toList = _ := vx_table (x := yL_mended) B (hts _ List.mem_cons_self)
  refine lv_aload_n hx hb dL_mended_0 rfl (lv_at hl 0 rfl) ?_
  refine lv_lload_n hx hb dL_mended_1 rfl (lv_at hl 1 rfl) ?_
  refine lv_iload_n hx hb dL_mended_2 rfl (lv_at hl 2 rfl) ?_
  refine lx_catchi (As := [.long w, .int k]) (rest := []) ⟨hx, hb, hml, hown, hts⟩ (x_X8_mended l hstk o w k _ (x_X8_repairedOrThrow_1 l hstk w k h)) (cwV 2 hts gL_mended_X8_mended rfl rfl rfl (by decide +kernel) ⟨(Nat.le_of_ble_eq_true rfl), (Nat.le_of_ble_eq_true rfl)⟩) hrec rfl hl.1 (lv_room (Nat.le_of_ble_eq_true rfl)) dL_mended_3 ⟨(Nat.le_of_ble_eq_true rfl), (Nat.le_of_ble_eq_true rfl)⟩ hS rfl hX [] ⟨0, 6, 7, 15⟩ [⟨0, 6, 12, 24⟩] htab (fun z hz => absurd hz List.not_mem_nil) (by decide) (by decide) (hts (.classLink RL 15 "java/lang/IllegalArgumentException") (by decide +kernel)) (fun q9 H locs hS => ?_)
  refine W.eq (g2 := F0 m 7 ls [.ref q9]) rfl ?_
  refine lv_astore (lv' := [(4, .ref q9), (0, .ref o), (1, .long w), (3, .int k)]) hx hb dL_mended_7 hl (by decide) rfl (fun ls hl => ?_)
  refine lv_ldc (v := (-900001)) hx hb hown (hts (.constant RL 23 (-900001)) (by decide +kernel)) dL_mended_9 ?_
  exact W.iret (v := (-900001)) hx hb hr (fun t ht hW => ⟨⟨(-900001), (), rfl, rfl, trivial⟩, hS.F ht⟩) hS.2.2 dL_mended_11
set_option maxHeartbeats 4000000 in
set_option maxRecDepth 100000 in
theorem x_L_mended_2 (l : Launch) (hstk : l.stackTraces = false) (o : Nat) (w : Int64) (k : Int32) (h1 : ¬ w < 0) (h2 : ¬ 4294967295 < w) (h : k.toInt64 < 0 ∨ 255 < k.toInt64) : lx_i l yL_mended wsL_mended ({ frames := 9, cells := 1, slots := 6, locals := 153 } : Room) [.ref o, .long w, .int k] o "java/lang/IllegalArgumentException" (-900001) := by
  intro H0
  refine va_MetW (cc := cL_mended) (maxL := 5) (ret := (some .int)) (hh := [(0, 6, 7, 15), (0, 6, 12, 24)]) (by decide) rfl ?_
  intro p e s m args below meth c s₁ B hml hv
  obtain ⟨rfl, rfl, hrec, hX, hNc⟩ := hv
  have hx := B.exec
  have hb := B.bytes
  have hr := B.returns
  have hts := atoms_spec (ws := wsL_mended) B.pre
  have hown : s.vm.findClass RL = some m.cls := findClass_of_methodNamed B.named
  have hlocks := B.notSynchronized
  have hS : va_S (xA s) s.heap s.heap [] := va_S.rf
  have hA : ∀ q : Nat, s.heap.size ≤ q → xA s q := fun _ h => h
  have hl := lv_entry ([.ref o, .long w, .int k]) (n := 5) (Nat.le_of_ble_eq_true rfl)
  rw [lg_entry_eq]
  generalize (lg_sl ([.ref o, .long w, .int k]) ++ List.replicate (5 - (lg_sl ([.ref o, .long w, .int k])).length) Slot.unset).toArray = ls at hl ⊢
  have hl : lv_has ls 5 [(0, .ref o), (1, .long w), (3, .int k)] := hl
  have htab : c.exceptionTable.toList = _ := vx_table (x := yL_mended) B (hts _ List.mem_cons_self)
  refine lv_aload_n hx hb dL_mended_0 rfl (lv_at hl 0 rfl) ?_
  refine lv_lload_n hx hb dL_mended_1 rfl (lv_at hl 1 rfl) ?_
  refine lv_iload_n hx hb dL_mended_2 rfl (lv_at hl 2 rfl) ?_
  refine lx_catchi (As := [.long w, .int k]) (rest := []) ⟨hx, hb, hml, hown, hts⟩ (x_X8_mended l hstk o w k _ (x_X8_repairedOrThrow_2 l hstk w k h1 h2 h)) (cwV 2 hts gL_mended_X8_mended rfl rfl rfl (by decide +kernel) ⟨(Nat.le_of_ble_eq_true rfl), (Nat.le_of_ble_eq_true rfl)⟩) hrec rfl hl.1 (lv_room (Nat.le_of_ble_eq_true rfl)) dL_mended_3 ⟨(Nat.le_of_ble_eq_true rfl), (Nat.le_of_ble_eq_true rfl)⟩ hS rfl hX [] ⟨0, 6, 7, 15⟩ [⟨0, 6, 12, 24⟩] htab (fun z hz => absurd hz List.not_mem_nil) (by decide) (by decide) (hts (.classLink RL 15 "java/lang/IllegalArgumentException") (by decide +kernel)) (fun q9 H locs hS => ?_)
  refine W.eq (g2 := F0 m 7 ls [.ref q9]) rfl ?_
  refine lv_astore (lv' := [(4, .ref q9), (0, .ref o), (1, .long w), (3, .int k)]) hx hb dL_mended_7 hl (by decide) rfl (fun ls hl => ?_)
  refine lv_ldc (v := (-900001)) hx hb hown (hts (.constant RL 23 (-900001)) (by decide +kernel)) dL_mended_9 ?_
  exact W.iret (v := (-900001)) hx hb hr (fun t ht hW => ⟨⟨(-900001), (), rfl, rfl, trivial⟩, hS.F ht⟩) hS.2.2 dL_mended_11
set_option maxHeartbeats 4000000 in
set_option maxRecDepth 100000 in
theorem x_L_mended_3 (l : Launch) (hstk : l.stackTraces = false) (o : Nat) (w : Int64) (k : Int32) (h1 : ¬ w < 0) (h2 : ¬ 4294967295 < w) (h3 : ¬ k.toInt64 < 0) (h4 : ¬ 255 < k.toInt64) (he : fRep w k = -1) : lx_i l yL_mended wsL_mended ({ frames := 9, cells := 1, slots := 6, locals := 153 } : Room) [.ref o, .long w, .int k] o "java/util/NoSuchElementException" (-900002) := by
  intro H0
  refine va_MetW (cc := cL_mended) (maxL := 5) (ret := (some .int)) (hh := [(0, 6, 7, 15), (0, 6, 12, 24)]) (by decide) rfl ?_
  intro p e s m args below meth c s₁ B hml hv
  obtain ⟨rfl, rfl, hrec, hX, hNc⟩ := hv
  have hx := B.exec
  have hb := B.bytes
  have hr := B.returns
  have hts := atoms_spec (ws := wsL_mended) B.pre
  have hown : s.vm.findClass RL = some m.cls := findClass_of_methodNamed B.named
  have hlocks := B.notSynchronized
  have hS : va_S (xA s) s.heap s.heap [] := va_S.rf
  have hA : ∀ q : Nat, s.heap.size ≤ q → xA s q := fun _ h => h
  have hl := lv_entry ([.ref o, .long w, .int k]) (n := 5) (Nat.le_of_ble_eq_true rfl)
  rw [lg_entry_eq]
  generalize (lg_sl ([.ref o, .long w, .int k]) ++ List.replicate (5 - (lg_sl ([.ref o, .long w, .int k])).length) Slot.unset).toArray = ls at hl ⊢
  have hl : lv_has ls 5 [(0, .ref o), (1, .long w), (3, .int k)] := hl
  have htab : c.exceptionTable.toList = _ := vx_table (x := yL_mended) B (hts _ List.mem_cons_self)
  refine lv_aload_n hx hb dL_mended_0 rfl (lv_at hl 0 rfl) ?_
  refine lv_lload_n hx hb dL_mended_1 rfl (lv_at hl 1 rfl) ?_
  refine lv_iload_n hx hb dL_mended_2 rfl (lv_at hl 2 rfl) ?_
  refine lx_catchi (As := [.long w, .int k]) (rest := []) ⟨hx, hb, hml, hown, hts⟩ (x_X8_mended l hstk o w k _ (x_X8_repairedOrThrow_3 l hstk w k h1 h2 h3 h4 he)) (cwV 2 hts gL_mended_X8_mended rfl rfl rfl (by decide +kernel) ⟨(Nat.le_of_ble_eq_true rfl), (Nat.le_of_ble_eq_true rfl)⟩) hrec rfl hl.1 (lv_room (Nat.le_of_ble_eq_true rfl)) dL_mended_3 ⟨(Nat.le_of_ble_eq_true rfl), (Nat.le_of_ble_eq_true rfl)⟩ hS rfl hX [⟨0, 6, 7, 15⟩] ⟨0, 6, 12, 24⟩ [] htab (fun z hz => by rcases List.mem_singleton.mp hz with rfl; exact Or.inr ⟨by decide, "java/lang/IllegalArgumentException", hts (.classLink RL 15 "java/lang/IllegalArgumentException") (by decide +kernel), hNc⟩) (by decide) (by decide) (hts (.classLink RL 24 "java/util/NoSuchElementException") (by decide +kernel)) (fun q9 H locs hS => ?_)
  refine W.eq (g2 := F0 m 12 ls [.ref q9]) rfl ?_
  refine lv_astore (lv' := [(4, .ref q9), (0, .ref o), (1, .long w), (3, .int k)]) hx hb dL_mended_12 hl (by decide) rfl (fun ls hl => ?_)
  refine lv_ldc (v := (-900002)) hx hb hown (hts (.constant RL 26 (-900002)) (by decide +kernel)) dL_mended_14 ?_
  exact W.iret (v := (-900002)) hx hb hr (fun t ht hW => ⟨⟨(-900002), (), rfl, rfl, trivial⟩, hS.F ht⟩) hS.2.2 dL_mended_16
set_option maxHeartbeats 4000000 in
set_option maxRecDepth 100000 in
theorem c_L_encode (l : Launch) (o : Nat) (d b : Int32) (h1 : ¬ d.toInt64 < 0) (h2 : ¬ 255 < d.toInt64) (h3 : ¬ b.toInt64 < 0) (h4 : ¬ 1 < b.toInt64) : lo_i l yL_encode wsL_encode ({ frames := 2, cells := 0, slots := 0, locals := 48 } : Room) [.ref o, .int d, .int b] o (fByte d b) := by
  intro H0
  refine va_MetW (cc := cL_encode) (maxL := 4) (ret := (some .int)) (hh := [(0, 6, 7, 15)]) (by decide) rfl ?_
  intro p e s m args below meth c s₁ B hml hv
  obtain ⟨rfl, rfl, hrec⟩ := hv
  have hx := B.exec
  have hb := B.bytes
  have hr := B.returns
  have hts := atoms_spec (ws := wsL_encode) B.pre
  have hown : s.vm.findClass RL = some m.cls := findClass_of_methodNamed B.named
  have hlocks := B.notSynchronized
  have hS : va_S (xA s) s.heap s.heap [] := va_S.rf
  have hA : ∀ q : Nat, s.heap.size ≤ q → xA s q := fun _ h => h
  have hl := lv_entry ([.ref o, .int d, .int b]) (n := 4) (Nat.le_of_ble_eq_true rfl)
  rw [lg_entry_eq]
  generalize (lg_sl ([.ref o, .int d, .int b]) ++ List.replicate (4 - (lg_sl ([.ref o, .int d, .int b])).length) Slot.unset).toArray = ls at hl ⊢
  have hl : lv_has ls 4 [(0, .ref o), (1, .int d), (2, .int b)] := hl
  refine lv_aload_n hx hb dL_encode_0 rfl (lv_at hl 0 rfl) ?_
  refine lv_iload_n hx hb dL_encode_1 rfl (lv_at hl 1 rfl) ?_
  refine lv_iload_n hx hb dL_encode_2 rfl (lv_at hl 2 rfl) ?_
  refine pu_callVi (As := [.int d, .int b]) (rest := []) ⟨hx, hb, hml, hown, hts⟩ (c_X8_encode l o d b h1 h2 h3 h4) (cwV 2 hts gL_encode_X8_encode rfl rfl rfl (by decide +kernel) ⟨(Nat.le_of_ble_eq_true rfl), (Nat.le_of_ble_eq_true rfl)⟩) hrec rfl hl.1 (lv_room (Nat.le_of_ble_eq_true rfl)) dL_encode_3 ⟨Nat.zero_le _, Nat.zero_le _⟩ hS hA rfl (fun locs hS => ?_)
  exact W.iret (v := fByte d b) hx hb hr (fun t ht hW => ⟨⟨fByte d b, (), rfl, rfl, ht⟩, hS.F ht⟩) hS.2.2 dL_encode_6
set_option maxHeartbeats 4000000 in
set_option maxRecDepth 100000 in
theorem x_L_encode_1 (l : Launch) (hstk : l.stackTraces = false) (o : Nat) (d b : Int32) (h : d.toInt64 < 0 ∨ 255 < d.toInt64) : lx_i l yL_encode wsL_encode ({ frames := 8, cells := 1, slots := 6, locals := 128 } : Room) [.ref o, .int d, .int b] o "java/lang/IllegalArgumentException" (-900001) := by
  intro H0
  refine va_MetW (cc := cL_encode) (maxL := 4) (ret := (some .int)) (hh := [(0, 6, 7, 15)]) (by decide) rfl ?_
  intro p e s m args below meth c s₁ B hml hv
  obtain ⟨rfl, rfl, hrec, hX, hNc⟩ := hv
  have hx := B.exec
  have hb := B.bytes
  have hr := B.returns
  have hts := atoms_spec (ws := wsL_encode) B.pre
  have hown : s.vm.findClass RL = some m.cls := findClass_of_methodNamed B.named
  have hlocks := B.notSynchronized
  have hS : va_S (xA s) s.heap s.heap [] := va_S.rf
  have hA : ∀ q : Nat, s.heap.size ≤ q → xA s q := fun _ h => h
  have hl := lv_entry ([.ref o, .int d, .int b]) (n := 4) (Nat.le_of_ble_eq_true rfl)
  rw [lg_entry_eq]
  generalize (lg_sl ([.ref o, .int d, .int b]) ++ List.replicate (4 - (lg_sl ([.ref o, .int d, .int b])).length) Slot.unset).toArray = ls at hl ⊢
  have hl : lv_has ls 4 [(0, .ref o), (1, .int d), (2, .int b)] := hl
  have htab : c.exceptionTable.toList = _ := vx_table (x := yL_encode) B (hts _ List.mem_cons_self)
  refine lv_aload_n hx hb dL_encode_0 rfl (lv_at hl 0 rfl) ?_
  refine lv_iload_n hx hb dL_encode_1 rfl (lv_at hl 1 rfl) ?_
  refine lv_iload_n hx hb dL_encode_2 rfl (lv_at hl 2 rfl) ?_
  refine lx_catchi (As := [.int d, .int b]) (rest := []) ⟨hx, hb, hml, hown, hts⟩ (x_X8_encode_1 l hstk o d b h) (cwV 2 hts gL_encode_X8_encode rfl rfl rfl (by decide +kernel) ⟨(Nat.le_of_ble_eq_true rfl), (Nat.le_of_ble_eq_true rfl)⟩) hrec rfl hl.1 (lv_room (Nat.le_of_ble_eq_true rfl)) dL_encode_3 ⟨(Nat.le_of_ble_eq_true rfl), (Nat.le_of_ble_eq_true rfl)⟩ hS rfl hX [] ⟨0, 6, 7, 15⟩ [] htab (fun z hz => absurd hz List.not_mem_nil) (by decide) (by decide) (hts (.classLink RL 15 "java/lang/IllegalArgumentException") (by decide +kernel)) (fun q9 H locs hS => ?_)
  refine W.eq (g2 := F0 m 7 ls [.ref q9]) rfl ?_
  refine lv_astore_n (lv' := [(3, .ref q9), (0, .ref o), (1, .int d), (2, .int b)]) hx hb dL_encode_7 rfl hl (by decide) rfl (fun ls hl => ?_)
  refine lv_ldc (v := (-900001)) hx hb hown (hts (.constant RL 23 (-900001)) (by decide +kernel)) dL_encode_8 ?_
  exact W.iret (v := (-900001)) hx hb hr (fun t ht hW => ⟨⟨(-900001), (), rfl, rfl, trivial⟩, hS.F ht⟩) hS.2.2 dL_encode_10
set_option maxHeartbeats 4000000 in
set_option maxRecDepth 100000 in
theorem x_L_encode_2 (l : Launch) (hstk : l.stackTraces = false) (o : Nat) (d b : Int32) (h1 : ¬ d.toInt64 < 0) (h2 : ¬ 255 < d.toInt64) (h : b.toInt64 < 0 ∨ 1 < b.toInt64) : lx_i l yL_encode wsL_encode ({ frames := 8, cells := 1, slots := 6, locals := 128 } : Room) [.ref o, .int d, .int b] o "java/lang/IllegalArgumentException" (-900001) := by
  intro H0
  refine va_MetW (cc := cL_encode) (maxL := 4) (ret := (some .int)) (hh := [(0, 6, 7, 15)]) (by decide) rfl ?_
  intro p e s m args below meth c s₁ B hml hv
  obtain ⟨rfl, rfl, hrec, hX, hNc⟩ := hv
  have hx := B.exec
  have hb := B.bytes
  have hr := B.returns
  have hts := atoms_spec (ws := wsL_encode) B.pre
  have hown : s.vm.findClass RL = some m.cls := findClass_of_methodNamed B.named
  have hlocks := B.notSynchronized
  have hS : va_S (xA s) s.heap s.heap [] := va_S.rf
  have hA : ∀ q : Nat, s.heap.size ≤ q → xA s q := fun _ h => h
  have hl := lv_entry ([.ref o, .int d, .int b]) (n := 4) (Nat.le_of_ble_eq_true rfl)
  rw [lg_entry_eq]
  generalize (lg_sl ([.ref o, .int d, .int b]) ++ List.replicate (4 - (lg_sl ([.ref o, .int d, .int b])).length) Slot.unset).toArray = ls at hl ⊢
  have hl : lv_has ls 4 [(0, .ref o), (1, .int d), (2, .int b)] := hl
  have htab : c.exceptionTable.toList = _ := vx_table (x := yL_encode) B (hts _ List.mem_cons_self)
  refine lv_aload_n hx hb dL_encode_0 rfl (lv_at hl 0 rfl) ?_
  refine lv_iload_n hx hb dL_encode_1 rfl (lv_at hl 1 rfl) ?_
  refine lv_iload_n hx hb dL_encode_2 rfl (lv_at hl 2 rfl) ?_
  refine lx_catchi (As := [.int d, .int b]) (rest := []) ⟨hx, hb, hml, hown, hts⟩ (x_X8_encode_2 l hstk o d b h1 h2 h) (cwV 2 hts gL_encode_X8_encode rfl rfl rfl (by decide +kernel) ⟨(Nat.le_of_ble_eq_true rfl), (Nat.le_of_ble_eq_true rfl)⟩) hrec rfl hl.1 (lv_room (Nat.le_of_ble_eq_true rfl)) dL_encode_3 ⟨(Nat.le_of_ble_eq_true rfl), (Nat.le_of_ble_eq_true rfl)⟩ hS rfl hX [] ⟨0, 6, 7, 15⟩ [] htab (fun z hz => absurd hz List.not_mem_nil) (by decide) (by decide) (hts (.classLink RL 15 "java/lang/IllegalArgumentException") (by decide +kernel)) (fun q9 H locs hS => ?_)
  refine W.eq (g2 := F0 m 7 ls [.ref q9]) rfl ?_
  refine lv_astore_n (lv' := [(3, .ref q9), (0, .ref o), (1, .int d), (2, .int b)]) hx hb dL_encode_7 rfl hl (by decide) rfl (fun ls hl => ?_)
  refine lv_ldc (v := (-900001)) hx hb hown (hts (.constant RL 23 (-900001)) (by decide +kernel)) dL_encode_8 ?_
  exact W.iret (v := (-900001)) hx hb hr (fun t ht hW => ⟨⟨(-900001), (), rfl, rfl, trivial⟩, hS.F ht⟩) hS.2.2 dL_encode_10
set_option maxHeartbeats 4000000 in
set_option maxRecDepth 100000 in
theorem c_L_decode (l : Launch) (o : Nat) (cl b : Int32) (h1 : ¬ cl.toInt64 < 0) (h2 : ¬ 65535 < cl.toInt64) (h3 : ¬ b.toInt64 < 0) (h4 : ¬ 1 < b.toInt64) (he : fByte (fData cl) b = cl) : lo_i l yL_decode wsL_decode ({ frames := 2, cells := 0, slots := 0, locals := 49 } : Room) [.ref o, .int cl, .int b] o (fData cl) := by
  intro H0
  refine va_MetW (cc := cL_decode) (maxL := 4) (ret := (some .int)) (hh := [(0, 6, 7, 15), (0, 6, 11, 24)]) (by decide) rfl ?_
  intro p e s m args below meth c s₁ B hml hv
  obtain ⟨rfl, rfl, hrec⟩ := hv
  have hx := B.exec
  have hb := B.bytes
  have hr := B.returns
  have hts := atoms_spec (ws := wsL_decode) B.pre
  have hown : s.vm.findClass RL = some m.cls := findClass_of_methodNamed B.named
  have hlocks := B.notSynchronized
  have hS : va_S (xA s) s.heap s.heap [] := va_S.rf
  have hA : ∀ q : Nat, s.heap.size ≤ q → xA s q := fun _ h => h
  have hl := lv_entry ([.ref o, .int cl, .int b]) (n := 4) (Nat.le_of_ble_eq_true rfl)
  rw [lg_entry_eq]
  generalize (lg_sl ([.ref o, .int cl, .int b]) ++ List.replicate (4 - (lg_sl ([.ref o, .int cl, .int b])).length) Slot.unset).toArray = ls at hl ⊢
  have hl : lv_has ls 4 [(0, .ref o), (1, .int cl), (2, .int b)] := hl
  refine lv_aload_n hx hb dL_decode_0 rfl (lv_at hl 0 rfl) ?_
  refine lv_iload_n hx hb dL_decode_1 rfl (lv_at hl 1 rfl) ?_
  refine lv_iload_n hx hb dL_decode_2 rfl (lv_at hl 2 rfl) ?_
  refine pu_callVi (As := [.int cl, .int b]) (rest := []) ⟨hx, hb, hml, hown, hts⟩ (c_X8_decode l o cl b h1 h2 h3 h4 he) (cwV 2 hts gL_decode_X8_decode rfl rfl rfl (by decide +kernel) ⟨(Nat.le_of_ble_eq_true rfl), (Nat.le_of_ble_eq_true rfl)⟩) hrec rfl hl.1 (lv_room (Nat.le_of_ble_eq_true rfl)) dL_decode_3 ⟨Nat.zero_le _, Nat.zero_le _⟩ hS hA rfl (fun locs hS => ?_)
  exact W.iret (v := fData cl) hx hb hr (fun t ht hW => ⟨⟨fData cl, (), rfl, rfl, ht⟩, hS.F ht⟩) hS.2.2 dL_decode_6
set_option maxHeartbeats 4000000 in
set_option maxRecDepth 100000 in
theorem x_L_decode_1 (l : Launch) (hstk : l.stackTraces = false) (o : Nat) (cl b : Int32) (h : cl.toInt64 < 0 ∨ 65535 < cl.toInt64) : lx_i l yL_decode wsL_decode ({ frames := 8, cells := 1, slots := 6, locals := 129 } : Room) [.ref o, .int cl, .int b] o "java/lang/IllegalArgumentException" (-900001) := by
  intro H0
  refine va_MetW (cc := cL_decode) (maxL := 4) (ret := (some .int)) (hh := [(0, 6, 7, 15), (0, 6, 11, 24)]) (by decide) rfl ?_
  intro p e s m args below meth c s₁ B hml hv
  obtain ⟨rfl, rfl, hrec, hX, hNc⟩ := hv
  have hx := B.exec
  have hb := B.bytes
  have hr := B.returns
  have hts := atoms_spec (ws := wsL_decode) B.pre
  have hown : s.vm.findClass RL = some m.cls := findClass_of_methodNamed B.named
  have hlocks := B.notSynchronized
  have hS : va_S (xA s) s.heap s.heap [] := va_S.rf
  have hA : ∀ q : Nat, s.heap.size ≤ q → xA s q := fun _ h => h
  have hl := lv_entry ([.ref o, .int cl, .int b]) (n := 4) (Nat.le_of_ble_eq_true rfl)
  rw [lg_entry_eq]
  generalize (lg_sl ([.ref o, .int cl, .int b]) ++ List.replicate (4 - (lg_sl ([.ref o, .int cl, .int b])).length) Slot.unset).toArray = ls at hl ⊢
  have hl : lv_has ls 4 [(0, .ref o), (1, .int cl), (2, .int b)] := hl
  have htab : c.exceptionTable.toList = _ := vx_table (x := yL_decode) B (hts _ List.mem_cons_self)
  refine lv_aload_n hx hb dL_decode_0 rfl (lv_at hl 0 rfl) ?_
  refine lv_iload_n hx hb dL_decode_1 rfl (lv_at hl 1 rfl) ?_
  refine lv_iload_n hx hb dL_decode_2 rfl (lv_at hl 2 rfl) ?_
  refine lx_catchi (As := [.int cl, .int b]) (rest := []) ⟨hx, hb, hml, hown, hts⟩ (x_X8_decode_1 l hstk o cl b h) (cwV 2 hts gL_decode_X8_decode rfl rfl rfl (by decide +kernel) ⟨(Nat.le_of_ble_eq_true rfl), (Nat.le_of_ble_eq_true rfl)⟩) hrec rfl hl.1 (lv_room (Nat.le_of_ble_eq_true rfl)) dL_decode_3 ⟨(Nat.le_of_ble_eq_true rfl), (Nat.le_of_ble_eq_true rfl)⟩ hS rfl hX [] ⟨0, 6, 7, 15⟩ [⟨0, 6, 11, 24⟩] htab (fun z hz => absurd hz List.not_mem_nil) (by decide) (by decide) (hts (.classLink RL 15 "java/lang/IllegalArgumentException") (by decide +kernel)) (fun q9 H locs hS => ?_)
  refine W.eq (g2 := F0 m 7 ls [.ref q9]) rfl ?_
  refine lv_astore_n (lv' := [(3, .ref q9), (0, .ref o), (1, .int cl), (2, .int b)]) hx hb dL_decode_7 rfl hl (by decide) rfl (fun ls hl => ?_)
  refine lv_ldc (v := (-900001)) hx hb hown (hts (.constant RL 23 (-900001)) (by decide +kernel)) dL_decode_8 ?_
  exact W.iret (v := (-900001)) hx hb hr (fun t ht hW => ⟨⟨(-900001), (), rfl, rfl, trivial⟩, hS.F ht⟩) hS.2.2 dL_decode_10
set_option maxHeartbeats 4000000 in
set_option maxRecDepth 100000 in
theorem x_L_decode_2 (l : Launch) (hstk : l.stackTraces = false) (o : Nat) (cl b : Int32) (h1 : ¬ cl.toInt64 < 0) (h2 : ¬ 65535 < cl.toInt64) (h3 : ¬ b.toInt64 < 0) (h4 : ¬ 1 < b.toInt64) (hne : ¬ fByte (fData cl) b = cl) : lx_i l yL_decode wsL_decode ({ frames := 8, cells := 1, slots := 6, locals := 129 } : Room) [.ref o, .int cl, .int b] o "java/util/NoSuchElementException" (-900002) := by
  intro H0
  refine va_MetW (cc := cL_decode) (maxL := 4) (ret := (some .int)) (hh := [(0, 6, 7, 15), (0, 6, 11, 24)]) (by decide) rfl ?_
  intro p e s m args below meth c s₁ B hml hv
  obtain ⟨rfl, rfl, hrec, hX, hNc⟩ := hv
  have hx := B.exec
  have hb := B.bytes
  have hr := B.returns
  have hts := atoms_spec (ws := wsL_decode) B.pre
  have hown : s.vm.findClass RL = some m.cls := findClass_of_methodNamed B.named
  have hlocks := B.notSynchronized
  have hS : va_S (xA s) s.heap s.heap [] := va_S.rf
  have hA : ∀ q : Nat, s.heap.size ≤ q → xA s q := fun _ h => h
  have hl := lv_entry ([.ref o, .int cl, .int b]) (n := 4) (Nat.le_of_ble_eq_true rfl)
  rw [lg_entry_eq]
  generalize (lg_sl ([.ref o, .int cl, .int b]) ++ List.replicate (4 - (lg_sl ([.ref o, .int cl, .int b])).length) Slot.unset).toArray = ls at hl ⊢
  have hl : lv_has ls 4 [(0, .ref o), (1, .int cl), (2, .int b)] := hl
  have htab : c.exceptionTable.toList = _ := vx_table (x := yL_decode) B (hts _ List.mem_cons_self)
  refine lv_aload_n hx hb dL_decode_0 rfl (lv_at hl 0 rfl) ?_
  refine lv_iload_n hx hb dL_decode_1 rfl (lv_at hl 1 rfl) ?_
  refine lv_iload_n hx hb dL_decode_2 rfl (lv_at hl 2 rfl) ?_
  refine lx_catchi (As := [.int cl, .int b]) (rest := []) ⟨hx, hb, hml, hown, hts⟩ (x_X8_decode_2 l hstk o cl b h1 h2 h3 h4 hne) (cwV 2 hts gL_decode_X8_decode rfl rfl rfl (by decide +kernel) ⟨(Nat.le_of_ble_eq_true rfl), (Nat.le_of_ble_eq_true rfl)⟩) hrec rfl hl.1 (lv_room (Nat.le_of_ble_eq_true rfl)) dL_decode_3 ⟨(Nat.le_of_ble_eq_true rfl), (Nat.le_of_ble_eq_true rfl)⟩ hS rfl hX [⟨0, 6, 7, 15⟩] ⟨0, 6, 11, 24⟩ [] htab (fun z hz => by rcases List.mem_singleton.mp hz with rfl; exact Or.inr ⟨by decide, "java/lang/IllegalArgumentException", hts (.classLink RL 15 "java/lang/IllegalArgumentException") (by decide +kernel), hNc⟩) (by decide) (by decide) (hts (.classLink RL 24 "java/util/NoSuchElementException") (by decide +kernel)) (fun q9 H locs hS => ?_)
  refine W.eq (g2 := F0 m 11 ls [.ref q9]) rfl ?_
  refine lv_astore_n (lv' := [(3, .ref q9), (0, .ref o), (1, .int cl), (2, .int b)]) hx hb dL_decode_11 rfl hl (by decide) rfl (fun ls hl => ?_)
  refine lv_ldc (v := (-900002)) hx hb hown (hts (.constant RL 26 (-900002)) (by decide +kernel)) dL_decode_12 ?_
  exact W.iret (v := (-900002)) hx hb hr (fun t ht hW => ⟨⟨(-900002), (), rfl, rfl, trivial⟩, hS.F ht⟩) hS.2.2 dL_decode_14
set_option maxHeartbeats 4000000 in
set_option maxRecDepth 100000 in
theorem x_L_sample (l : Launch) (hstk : l.stackTraces = false) (o : Nat) (x : Int32) (h : x.toInt64 < -40 ∨ 40 < x.toInt64) : lx_i l yL_sample wsL_sample ({ frames := 8, cells := 1, slots := 6, locals := 127 } : Room) [.ref o, .int x] o "java/lang/IllegalArgumentException" (-900001) := by
  intro H0
  refine va_MetW (cc := cL_sample) (maxL := 3) (ret := (some .int)) (hh := [(0, 5, 6, 15), (0, 5, 10, 41)]) (by decide) rfl ?_
  intro p e s m args below meth c s₁ B hml hv
  obtain ⟨rfl, rfl, hrec, hX, hNc⟩ := hv
  have hx := B.exec
  have hb := B.bytes
  have hr := B.returns
  have hts := atoms_spec (ws := wsL_sample) B.pre
  have hown : s.vm.findClass RL = some m.cls := findClass_of_methodNamed B.named
  have hlocks := B.notSynchronized
  have hS : va_S (xA s) s.heap s.heap [] := va_S.rf
  have hA : ∀ q : Nat, s.heap.size ≤ q → xA s q := fun _ h => h
  have hl := lv_entry ([.ref o, .int x]) (n := 3) (Nat.le_of_ble_eq_true rfl)
  rw [lg_entry_eq]
  generalize (lg_sl ([.ref o, .int x]) ++ List.replicate (3 - (lg_sl ([.ref o, .int x])).length) Slot.unset).toArray = ls at hl ⊢
  have hl : lv_has ls 3 [(0, .ref o), (1, .int x)] := hl
  have htab : c.exceptionTable.toList = _ := vx_table (x := yL_sample) B (hts _ List.mem_cons_self)
  refine lv_aload_n hx hb dL_sample_0 rfl (lv_at hl 0 rfl) ?_
  refine lv_iload_n hx hb dL_sample_1 rfl (lv_at hl 1 rfl) ?_
  refine lx_catchi (As := [.int x]) (rest := []) ⟨hx, hb, hml, hown, hts⟩ (x_X8_sample l hstk o x h) (cwV 1 hts gL_sample_X8_sample rfl rfl rfl (by decide +kernel) ⟨(Nat.le_of_ble_eq_true rfl), (Nat.le_of_ble_eq_true rfl)⟩) hrec rfl hl.1 (lv_room (Nat.le_of_ble_eq_true rfl)) dL_sample_2 ⟨(Nat.le_of_ble_eq_true rfl), (Nat.le_of_ble_eq_true rfl)⟩ hS rfl hX [] ⟨0, 5, 6, 15⟩ [⟨0, 5, 10, 41⟩] htab (fun z hz => absurd hz List.not_mem_nil) (by decide) (by decide) (hts (.classLink RL 15 "java/lang/IllegalArgumentException") (by decide +kernel)) (fun q9 H locs hS => ?_)
  refine W.eq (g2 := F0 m 6 ls [.ref q9]) rfl ?_
  refine lv_astore_n (lv' := [(2, .ref q9), (0, .ref o), (1, .int x)]) hx hb dL_sample_6 rfl hl (by decide) rfl (fun ls hl => ?_)
  refine lv_ldc (v := (-900001)) hx hb hown (hts (.constant RL 23 (-900001)) (by decide +kernel)) dL_sample_7 ?_
  exact W.iret (v := (-900001)) hx hb hr (fun t ht hW => ⟨⟨(-900001), (), rfl, rfl, trivial⟩, hS.F ht⟩) hS.2.2 dL_sample_9
