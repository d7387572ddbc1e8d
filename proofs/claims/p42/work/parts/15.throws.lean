/-! Methods that throw X, from a start at which it is known that they do (launches without stack traces): one new cell of six slots; all else stays. px_v, px_i, px_l: by what they would answer. -/
def xK (X : String) (U : State) : Prop := (va_Nw (.declares (Bundle.init0 "java/lang/RuntimeException")) U ∧ va_Nw (.declares (Bundle.init0 "java/lang/Exception")) U ∧ va_Nw (.declares (Bundle.init0 Bundle.tN)) U ∧ va_Nw (.castable X X) U) ∧ vx_Zq Bundle.tN "UNASSIGNED_STACK" Bundle.steD (fun q => U.heap.size ≤ q) U U.heap ∧ vx_Zq Bundle.tN "SUPPRESSED_SENTINEL" Bundle.listD (fun q => U.heap.size ≤ q) U U.heap
abbrev xB (X : String) : List Cond := [.declares (Bundle.init0 "java/lang/RuntimeException"), .declares (Bundle.init0 "java/lang/Exception"), .declares (Bundle.init0 Bundle.tN), .castable X X]
abbrev xNames : List String := ["java/lang/RuntimeException", "java/lang/Exception"]
theorem xK_B {X : String} {s : State} {args : Array Value} (h : xK X s) : ∀ w ∈ xB X, w.before args s = true := vx_c (h.1.1.use rfl) (vx_c (h.1.2.1.use rfl) (vx_c (h.1.2.2.1.use rfl) (vx_c (h.1.2.2.2.use rfl) vx_n)))
theorem xK_warm {X : String} {s U : State} (hW : s.WarmedH U.vm) (hU : U.heap = s.heap) (h : xK X s) : xK X U := by
  obtain ⟨⟨h1, h2, h3, h4⟩, hu, hn⟩ := h
  refine ⟨⟨h1.warmD hW, h2.warmD hW, h3.warmD hW, h4.warmC hW⟩, ?_, ?_⟩
  · rw [hU]; exact vx_Zq.moved hW.alike hu
  · rw [hU]; exact vx_Zq.moved hW.alike hn
theorem xK_blind {X : String} (U : State) (g : JFrame) (mk : MethodId) (a : Array Value) (h : xK X U) : xK X (U.calling g mk a) := by
  obtain ⟨⟨h1, h2, h3, h4⟩, hu, hn⟩ := h
  exact ⟨⟨va_Nw.same (u := U) rfl rfl h1, va_Nw.same (u := U) rfl rfl h2, va_Nw.same (u := U) rfl rfl h3, va_Nw.same (u := U) rfl rfl h4⟩, vx_Zq.moved (u := U) (U := U.calling g mk a) (Vm.Alike.refl U.vm) hu, vx_Zq.moved (u := U) (U := U.calling g mk a) (Vm.Alike.refl U.vm) hn⟩
abbrev xXC (X : String) (A : Nat → Prop) : String → State → State → Prop := vx_X (fun _ : Unit => True) (fun E _ _ => E = X) A
def px_v (l : Launch) (y : MethodName) (ws : List Cond) (rm : Room) (av : List Value) (X : String) : Prop := ∀ H0 : Heap, vx_Met l y ws rm (va_Pc av (fun U => U.heap = H0 ∧ xK X U)) (va_Qv (fun _ : Unit => False) (fun _ _ => True) (fun q => H0.size ≤ q)) (xXC X (fun q => H0.size ≤ q)) 1 6 (fun q => H0.size ≤ q)
def px_i (l : Launch) (y : MethodName) (ws : List Cond) (rm : Room) (av : List Value) (X : String) : Prop := ∀ H0 : Heap, vx_Met l y ws rm (va_Pc av (fun U => U.heap = H0 ∧ xK X U)) (va_Qi (fun (_ : Int32) (_ : Unit) => False) (fun _ _ => True) (fun q => H0.size ≤ q)) (xXC X (fun q => H0.size ≤ q)) 1 6 (fun q => H0.size ≤ q)
def px_l (l : Launch) (y : MethodName) (ws : List Cond) (rm : Room) (av : List Value) (X : String) : Prop := ∀ H0 : Heap, vx_Met l y ws rm (va_Pc av (fun U => U.heap = H0 ∧ xK X U)) (va_Ql (fun (_ : Int64) (_ : Unit) => False) (fun _ _ => True) (fun q => H0.size ≤ q)) (xXC X (fun q => H0.size ≤ q)) 1 6 (fun q => H0.size ≤ q)
section PX
variable {p : Program} {l : Launch} {e : Env} {R : Room} {s : State} {m : MethodId} {args : Array Value} {below : List Frame} {meth : Method} {c : Code} {locs : List Loc} {Qc : Array Value → State → Outcome → State → Prop}
variable {y : MethodName} {bytes cc : ByteArray} {maxL nL n index : Nat} {ret : Option FieldType} {ws : List Cond} {rm : Room} {Ts : List Cond} {own C : String} {As rest : List Value} {pc : Nat} {ls : Array Slot} {st0 : List Value} {b : Nat} {X : String}
abbrev xA (s : State) : Nat → Prop := fun q => s.heap.size ≤ q
/-- a static call that throws, in a method without handlers -/
theorem px_outv (S : CallFix p m c cc nL s args Ts own) (hM : px_v l y ws rm As X) (cw : CallB R s args own index y bytes maxL ret ws rm 1 6 n ∧ (Cond.static y).before args s = true) (hn : As.length = n) (hsize : ls.size = nL)
    (hW : 2 * (F0 m pc ls st0).monitorRoom + (rest.map fun v => v.category).sum ≤ 8) (hdg : decode cc pc = .ok (.invokestatic index, 3)) (hf : 0 + 1 ≤ R.cells ∧ 0 + 6 ≤ R.slots) (hS : va_S (xA s) s.heap s.heap locs) (hst : st0 = As.reverse ++ rest) (hK : xK X s) (ht : ∀ x ∈ c.exceptionTable.toList, False) (hlocks : meth.locks = false) :
    W p l e R s m args below meth c s.heap locs 0 0 (vx_MQ below Qc (xXC X (xA s)) args s 1 6 (xA s)) (F0 m pc ls st0) := by
  refine vx_callv (A1 := xA s) (AX := xA s) (vx_runS S (hM s.heap) cw ⟨fun a U g mk q => ⟨q.1, q.2.1, xK_blind U g mk a q.2.2⟩, fun U hU hW => ⟨rfl, hU, xK_warm hW hU hK⟩⟩ rfl hn hsize hst hW hdg hf) hS (fun q h1 h2 => absurd h1 (Nat.not_lt.mpr h2)) (fun q h => h) (fun q h1 h2 => absurd h1 (Nat.not_lt.mpr h2)) (fun E ce q9 u t H1 locs1 ht1 hvm hpx hBX hz hk hS1 hq hv9 hcl => ?_) (fun u t H1 locs1 _ _ hp _ _ _ _ => hp.elim)
  have hE : E = X := hBX
  subst hE
  exact vx_out (fun x hx => (ht x hx).elim) hlocks hq hv9 hcl (fun t' ht' ha => ⟨(), trivial, rfl, hS1.F ht'⟩) hS1.2.2 (Nat.le_refl _) (Nat.le_refl _)
theorem px_outl (S : CallFix p m c cc nL s args Ts own) (hM : px_l l y ws rm As X) (cw : CallB R s args own index y bytes maxL ret ws rm 1 6 n ∧ (Cond.static y).before args s = true) (hn : As.length = n) (hsize : ls.size = nL)
    (hW : 2 * (F0 m pc ls st0).monitorRoom + (rest.map fun v => v.category).sum ≤ 8) (hdg : decode cc pc = .ok (.invokestatic index, 3)) (hf : 0 + 1 ≤ R.cells ∧ 0 + 6 ≤ R.slots) (hS : va_S (xA s) s.heap s.heap locs) (hst : st0 = As.reverse ++ rest) (hK : xK X s) (ht : ∀ x ∈ c.exceptionTable.toList, False) (hlocks : meth.locks = false) :
    W p l e R s m args below meth c s.heap locs 0 0 (vx_MQ below Qc (xXC X (xA s)) args s 1 6 (xA s)) (F0 m pc ls st0) := by
  refine vx_calll (A1 := xA s) (AX := xA s) (vx_runS S (hM s.heap) cw ⟨fun a U g mk q => ⟨q.1, q.2.1, xK_blind U g mk a q.2.2⟩, fun U hU hW => ⟨rfl, hU, xK_warm hW hU hK⟩⟩ rfl hn hsize hst hW hdg hf) hS (fun q h1 h2 => absurd h1 (Nat.not_lt.mpr h2)) (fun q h => h) (fun q h1 h2 => absurd h1 (Nat.not_lt.mpr h2)) (fun E ce q9 u t H1 locs1 ht1 hvm hpx hBX hz hk hS1 hq hv9 hcl => ?_) (fun r u t H1 locs1 _ _ hp _ _ _ _ => hp.elim)
  have hE : E = X := hBX
  subst hE
  exact vx_out (fun x hx => (ht x hx).elim) hlocks hq hv9 hcl (fun t' ht' ha => ⟨(), trivial, rfl, hS1.F ht'⟩) hS1.2.2 (Nat.le_refl _) (Nat.le_refl _)
end PX
set_option maxRecDepth 20000 in
theorem xgood_IAE : ∀ w ∈ Cond.classLink RX8 238 "java/lang/IllegalArgumentException" :: Cond.initialized "java/lang/IllegalArgumentException" :: vx_at0 RX8 240 "java/lang/IllegalArgumentException" xNames, vx_ot w = true := by decide +kernel
set_option maxRecDepth 20000 in
theorem xgood_NSE : ∀ w ∈ Cond.classLink RX8 87 "java/util/NoSuchElementException" :: Cond.initialized "java/util/NoSuchElementException" :: vx_at0 RX8 89 "java/util/NoSuchElementException" xNames, vx_ot w = true := by decide +kernel
set_option maxRecDepth 20000 in
theorem xB_IAE : ∀ w ∈ (vx_at0 RX8 240 "java/lang/IllegalArgumentException" xNames).filter (fun w => !goodWord w), w ∈ xB "java/lang/IllegalArgumentException" := by decide +kernel
set_option maxRecDepth 20000 in
theorem xB_NSE : ∀ w ∈ (vx_at0 RX8 89 "java/util/NoSuchElementException" xNames).filter (fun w => !goodWord w), w ∈ xB "java/util/NoSuchElementException" := by decide +kernel
