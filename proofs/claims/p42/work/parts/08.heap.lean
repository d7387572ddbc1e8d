/-! Methods over cells. rc_: they read the cells w, the heap stays, the answer is f. wc_: they make of the cells w the cells w', nothing new. nc: constructors: of the cells w some u with Wof u, with new cells. -/
def rc_i (l : Launch) (y : MethodName) (ws : List Cond) (rm : Room) (av : List Value) (D : va_G) (cJ : ClassId) (w : va_W) (f : Int32) : Prop := ∀ H0 : Heap, Met l y ws rm (va_Pc av (fun U => U.heap = H0 ∧ va_P D vwCl w U.heap ∧ va_K D vwCl [(cJ, .long)] U)) (va_Qi (fun (r : Int32) (_ : Unit) => r = f) (fun _ t => t.heap = H0) (fun q => H0.size ≤ q)) 0 0 (fun q => H0.size ≤ q)
def rc_l (l : Launch) (y : MethodName) (ws : List Cond) (rm : Room) (av : List Value) (D : va_G) (cJ : ClassId) (w : va_W) (f : Int64) : Prop := ∀ H0 : Heap, Met l y ws rm (va_Pc av (fun U => U.heap = H0 ∧ va_P D vwCl w U.heap ∧ va_K D vwCl [(cJ, .long)] U)) (va_Ql (fun (r : Int64) (_ : Unit) => r = f) (fun _ t => t.heap = H0) (fun q => H0.size ≤ q)) 0 0 (fun q => H0.size ≤ q)
def wPre (av : List Value) (D : va_G) (cJ : ClassId) (w : va_W) (sz : Nat) : Array Value → State → Prop := va_Pc av (fun U => U.heap.size = sz ∧ va_P D vwCl w U.heap ∧ va_K D vwCl [(cJ, .long)] U ∧ va_D (fun _ => True) w)
def wPost (D : va_G) (cJ : ClassId) (w : va_W) (sz : Nat) (u : va_W) (t : State) : Prop := va_P D vwCl u t.heap ∧ va_K D vwCl [(cJ, .long)] t ∧ va_D (va_A w sz) u
def wc_v (l : Launch) (y : MethodName) (ws : List Cond) (rm : Room) (av : List Value) (D : va_G) (cJ : ClassId) (w w' : va_W) : Prop := ∀ sz : Nat, Met l y ws rm (wPre av D cJ w sz) (va_Qv (fun u : va_W => u = w') (wPost D cJ w sz) (va_A w sz)) 0 0 (va_A w sz)
def wc_i (l : Launch) (y : MethodName) (ws : List Cond) (rm : Room) (av : List Value) (D : va_G) (cJ : ClassId) (w w' : va_W) (f : Int32) : Prop := ∀ sz : Nat, Met l y ws rm (wPre av D cJ w sz) (va_Qi (fun (r : Int32) (u : va_W) => r = f ∧ u = w') (wPost D cJ w sz) (va_A w sz)) 0 0 (va_A w sz)
def nc (l : Launch) (y : MethodName) (ws : List Cond) (rm : Room) (av : List Value) (D : va_G) (cJ : ClassId) (w : va_W) (Wof : va_W → Prop) (mc ms : Nat) : Prop := ∀ sz : Nat, Met l y ws rm (wPre av D cJ w sz) (va_Qv Wof (wPost D cJ w sz) (va_A w sz)) mc ms (va_A w sz)
theorem wPre_blind {av : List Value} {D : va_G} {cJ : ClassId} {w : va_W} {sz : Nat} : FrameBlind (wPre av D cJ w sz) := fun a U g mk q => by
  obtain ⟨q0, q1, qP, qK, qD⟩ := q
  exact ⟨q0, q1, qP, va_K.moved (u := U) (U := U.calling g mk a) (Vm.Alike.refl U.vm) qK, qD⟩
section HU
variable {p : Program} {l : Launch} {e : Env} {R : Room} {s : State} {m : MethodId} {args : Array Value} {below : List Frame} {meth : Method} {c : Code} {H : Heap} {locs : List Loc} {cells slots : Nat} {Q : State → Prop}
variable {y : MethodName} {bytes cc : ByteArray} {maxL nL n index : Nat} {ret : Option FieldType} {ws : List Cond} {rm : Room} {Ts : List Cond} {own C : String} {As rest : List Value} {pc : Nat} {ls : Array Slot} {st0 : List Value} {A0 : Nat → Prop} {H0 : Heap} {b : Nat} {D : va_G} {cJ : ClassId} {w w' wr wa wn : va_W}
theorem ru_calli {f : Int32} (S : CallFix p m c cc nL s args Ts own) (hM : rc_i l y ws rm (.ref b :: As) D cJ w f) (cw : CallW R s args own C index y bytes maxL ret ws rm 0 0 n) (hrec : ∃ cellB : Cell, H[b]? = some cellB ∧ cellB.vm.isStatics = false ∧ s.vm.findClass C = some cellB.cls) (hn : As.length = n) (hsize : ls.size = nL)
    (hW : 2 * (F0 m pc ls st0).monitorRoom + (rest.map fun v => v.category).sum ≤ 8) (hdg : decode cc pc = .ok (.invokevirtual index, 3)) (hf : cells + 0 ≤ R.cells ∧ slots + 0 ≤ R.slots) (hS : va_S A0 H0 H locs) (hA : ∀ q, H0.size ≤ q → A0 q) (hst : st0 = As.reverse ++ .ref b :: rest) (hK : va_K D vwCl [(cJ, .long)] s) (hP : va_P D vwCl w H)
    (kk : ∀ locs1 : List Loc, va_S A0 H0 H locs1 → W p l e R s m args below meth c H locs1 cells slots Q (F0 m (pc + 3) ls (.int f :: rest))) : W p l e R s m args below meth c H locs cells slots Q (F0 m pc ls st0) := by
  refine va_calli (A1 := fun q => H.size ≤ q) (va_runV S (hM H) cw ⟨fun a U g mk q => ⟨q.1, q.2.1, q.2.2.1, va_K.moved (u := U) (U := U.calling g mk a) (Vm.Alike.refl U.vm) q.2.2.2⟩, hrec, fun U hU hW => ⟨rfl, hU, by rw [hU]; exact hP, va_K.moved hW.alike hK⟩⟩ rfl hn hsize hst hW hdg hf) hS (fun q h1 h2 => absurd h1 (Nat.not_lt.mpr h2)) (fun q h => hA q (Nat.le_trans hS.1 h)) (fun r u t H1 locs1 ht hvm hp hB hz hk hS1 => ?_)
  have e1 : H1 = H := ht.symm.trans hB
  subst e1
  have e2 : r = f := hp
  subst e2
  exact kk locs1 hS1
theorem ru_calll {f : Int64} (S : CallFix p m c cc nL s args Ts own) (hM : rc_l l y ws rm (.ref b :: As) D cJ w f) (cw : CallW R s args own C index y bytes maxL ret ws rm 0 0 n) (hrec : ∃ cellB : Cell, H[b]? = some cellB ∧ cellB.vm.isStatics = false ∧ s.vm.findClass C = some cellB.cls) (hn : As.length = n) (hsize : ls.size = nL)
    (hW : 2 * (F0 m pc ls st0).monitorRoom + (rest.map fun v => v.category).sum ≤ 8) (hdg : decode cc pc = .ok (.invokevirtual index, 3)) (hf : cells + 0 ≤ R.cells ∧ slots + 0 ≤ R.slots) (hS : va_S A0 H0 H locs) (hA : ∀ q, H0.size ≤ q → A0 q) (hst : st0 = As.reverse ++ .ref b :: rest) (hK : va_K D vwCl [(cJ, .long)] s) (hP : va_P D vwCl w H)
    (kk : ∀ locs1 : List Loc, va_S A0 H0 H locs1 → W p l e R s m args below meth c H locs1 cells slots Q (F0 m (pc + 3) ls (.long f :: rest))) : W p l e R s m args below meth c H locs cells slots Q (F0 m pc ls st0) := by
  refine va_calll (A1 := fun q => H.size ≤ q) (va_runV S (hM H) cw ⟨fun a U g mk q => ⟨q.1, q.2.1, q.2.2.1, va_K.moved (u := U) (U := U.calling g mk a) (Vm.Alike.refl U.vm) q.2.2.2⟩, hrec, fun U hU hW => ⟨rfl, hU, by rw [hU]; exact hP, va_K.moved hW.alike hK⟩⟩ rfl hn hsize hst hW hdg hf) hS (fun q h1 h2 => absurd h1 (Nat.not_lt.mpr h2)) (fun q h => hA q (Nat.le_trans hS.1 h)) (fun r u t H1 locs1 ht hvm hp hB hz hk hS1 => ?_)
  have e1 : H1 = H := ht.symm.trans hB
  subst e1
  have e2 : r = f := hp
  subst e2
  exact kk locs1 hS1
/-- a writer called on an object: its cells isC of the world wa are w, the rest isR is wr; behind it the world in the order is9 is wn -/
theorem wu_callv (S : CallFix p m c cc nL s args Ts own) (hM : wc_v l y ws rm (.ref b :: As) D cJ w w') (cw : CallW R s args own C index y bytes maxL ret ws rm 0 0 n) (hrec : ∃ cellB : Cell, H[b]? = some cellB ∧ cellB.vm.isStatics = false ∧ s.vm.findClass C = some cellB.cls) (hn : As.length = n) (hsize : ls.size = nL)
    (hW : 2 * (F0 m pc ls st0).monitorRoom + (rest.map fun v => v.category).sum ≤ 8) (hdg : decode cc pc = .ok (.invokevirtual index, 3)) (hf : cells + 0 ≤ R.cells ∧ slots + 0 ≤ R.slots) (hS : va_S A0 H0 H locs) (hA : ∀ q, H0.size ≤ q → A0 q) (hst : st0 = As.reverse ++ .ref b :: rest) (hK : va_K D vwCl [(cJ, .long)] s) (hP : va_P D vwCl wa H) (hD : va_D A0 wa)
    (isC isR is9 : List Nat) (hC1 : isC.filterMap (fun i => wa[i]?) = w) (hC : isC.map (fun i => wa[i]?) = w.map some) (hCn : va_nd isC = true) (hR : isR.map (fun i => wa[i]?) = wr.map some) (hRn : va_nd isR = true) (hdis : ∀ i ∈ isR, i ∉ isC) (h9 : is9.filterMap (fun i => (wr ++ w')[i]?) = wn) (h9m : is9.map (fun i => (wr ++ w')[i]?) = wn.map some) (h9n : va_nd is9 = true)
    (kk : ∀ (H1 : Heap) (locs1 : List Loc), va_P D vwCl wn H1 → va_D A0 wn → va_S A0 H0 H1 locs1 → W p l e R s m args below meth c H1 locs1 cells slots Q (F0 m (pc + 3) ls rest)) : W p l e R s m args below meth c H locs cells slots Q (F0 m pc ls st0) := by
  have hPc := hP.sub isC hC1
  have hDc := hD.sub isC hCn hC
  have hFc := va_free hD hS hA isC hC
  refine va_callv (va_runV S (hM H.size) cw ⟨wPre_blind, hrec, fun U hU hW => ⟨rfl, by rw [hU], by rw [hU]; exact hPc, va_K.moved hW.alike hK, hDc.weaken (fun _ _ _ _ => trivial)⟩⟩ rfl hn hsize hst hW hdg hf) hS (fun q _ h => hFc q h) hFc (fun u t H1 locs1 ht hvm hp hB hz hk hS1 => ?_)
  have e2 : u = w' := hp
  subst e2
  obtain ⟨hP1, hK1, hD1⟩ := hB
  rw [ht] at hP1
  obtain ⟨hP2, hD2⟩ := va_join hP hD isC isR hC hR hRn hdis hk hFc hP1 hD1
  exact kk H1 locs1 (hP2.sub is9 h9) (hD2.sub is9 h9n h9m) hS1
theorem wu_calli {f : Int32} (S : CallFix p m c cc nL s args Ts own) (hM : wc_i l y ws rm (.ref b :: As) D cJ w w' f) (cw : CallW R s args own C index y bytes maxL ret ws rm 0 0 n) (hrec : ∃ cellB : Cell, H[b]? = some cellB ∧ cellB.vm.isStatics = false ∧ s.vm.findClass C = some cellB.cls) (hn : As.length = n) (hsize : ls.size = nL)
    (hW : 2 * (F0 m pc ls st0).monitorRoom + (rest.map fun v => v.category).sum ≤ 8) (hdg : decode cc pc = .ok (.invokevirtual index, 3)) (hf : cells + 0 ≤ R.cells ∧ slots + 0 ≤ R.slots) (hS : va_S A0 H0 H locs) (hA : ∀ q, H0.size ≤ q → A0 q) (hst : st0 = As.reverse ++ .ref b :: rest) (hK : va_K D vwCl [(cJ, .long)] s) (hP : va_P D vwCl wa H) (hD : va_D A0 wa)
    (isC isR is9 : List Nat) (hC1 : isC.filterMap (fun i => wa[i]?) = w) (hC : isC.map (fun i => wa[i]?) = w.map some) (hCn : va_nd isC = true) (hR : isR.map (fun i => wa[i]?) = wr.map some) (hRn : va_nd isR = true) (hdis : ∀ i ∈ isR, i ∉ isC) (h9 : is9.filterMap (fun i => (wr ++ w')[i]?) = wn) (h9m : is9.map (fun i => (wr ++ w')[i]?) = wn.map some) (h9n : va_nd is9 = true)
    (kk : ∀ (H1 : Heap) (locs1 : List Loc), va_P D vwCl wn H1 → va_D A0 wn → va_S A0 H0 H1 locs1 → W p l e R s m args below meth c H1 locs1 cells slots Q (F0 m (pc + 3) ls (.int f :: rest))) : W p l e R s m args below meth c H locs cells slots Q (F0 m pc ls st0) := by
  have hPc := hP.sub isC hC1
  have hDc := hD.sub isC hCn hC
  have hFc := va_free hD hS hA isC hC
  refine va_calli (va_runV S (hM H.size) cw ⟨wPre_blind, hrec, fun U hU hW => ⟨rfl, by rw [hU], by rw [hU]; exact hPc, va_K.moved hW.alike hK, hDc.weaken (fun _ _ _ _ => trivial)⟩⟩ rfl hn hsize hst hW hdg hf) hS (fun q _ h => hFc q h) hFc (fun r u t H1 locs1 ht hvm hp hB hz hk hS1 => ?_)
  obtain ⟨e1, e2⟩ : r = f ∧ u = w' := hp
  subst e1; subst e2
  obtain ⟨hP1, hK1, hD1⟩ := hB
  rw [ht] at hP1
  obtain ⟨hP2, hD2⟩ := va_join hP hD isC isR hC hR hRn hdis hk hFc hP1 hD1
  exact kk H1 locs1 (hP2.sub is9 h9) (hD2.sub is9 h9n h9m) hS1
/-- a constructor called on a new object (its cell is at isC of wa): behind it the rest wr, and what it made of it -/
theorem nu_callv {Wof : va_W → Prop} {mc ms : Nat} (S : CallFix p m c cc nL s args Ts own) (hM : nc l y ws rm (.ref b :: As) D cJ w Wof mc ms) (cw : CallB R s args own index y bytes maxL none ws rm mc ms n ∧ y.name = "<init>" ∧ (Cond.instanceMethod y).before args s = true) (hn : As.length = n) (hsize : ls.size = nL)
    (hW : 2 * (F0 m pc ls st0).monitorRoom + (rest.map fun v => v.category).sum ≤ 8) (hdg : decode cc pc = .ok (.invokespecial index, 3)) (hf : cells + mc ≤ R.cells ∧ slots + ms ≤ R.slots) (hS : va_S A0 H0 H locs) (hA : ∀ q, H0.size ≤ q → A0 q) (hst : st0 = As.reverse ++ .ref b :: rest) (hK : va_K D vwCl [(cJ, .long)] s) (hP : va_P D vwCl wa H) (hD : va_D A0 wa)
    (isC isR : List Nat) (hC1 : isC.filterMap (fun i => wa[i]?) = w) (hC : isC.map (fun i => wa[i]?) = w.map some) (hCn : va_nd isC = true) (hR : isR.map (fun i => wa[i]?) = wr.map some) (hRn : va_nd isR = true) (hdis : ∀ i ∈ isR, i ∉ isC)
    (kk : ∀ (u : va_W) (H1 : Heap) (locs1 : List Loc), Wof u → va_P D vwCl (wr ++ u) H1 → va_D A0 (wr ++ u) → va_S A0 H0 H1 locs1 → W p l e R s m args below meth c H1 locs1 (cells + mc) (slots + ms) Q (F0 m (pc + 3) ls rest)) : W p l e R s m args below meth c H locs cells slots Q (F0 m pc ls st0) := by
  have hPc := hP.sub isC hC1
  have hDc := hD.sub isC hCn hC
  have hFc := va_free hD hS hA isC hC
  refine va_callv (va_runI S (hM H.size) cw ⟨wPre_blind, fun U hU hW => ⟨rfl, by rw [hU], by rw [hU]; exact hPc, va_K.moved hW.alike hK, hDc.weaken (fun _ _ _ _ => trivial)⟩⟩ rfl hn hsize hst hW hdg hf) hS (fun q _ h => hFc q h) hFc (fun u t H1 locs1 ht hvm hp hB hz hk hS1 => ?_)
  obtain ⟨hP1, hK1, hD1⟩ := hB
  rw [ht] at hP1
  obtain ⟨hP2, hD2⟩ := va_join hP hD isC isR hC hR hRn hdis hk hFc hP1 hD1
  exact kk u H1 locs1 hp hP2 hD2 hS1
end HU
/-- the class of long[] is one -/
theorem cJ_one {D : va_G} {cJ cA : ClassId} {s : State} (h : va_K D vwCl ([(cJ, .long)] ++ [(cA, .long)]) s) : cA = cJ := by
  have h1 := (h.2 0 (cJ, .long) rfl).2
  have h2 := (h.2 1 (cA, .long) rfl).2
  exact Option.some.inj (h2.symm.trans h1)
/-- a row's numbers as they count -/
theorem row_eq {D : va_G} {w1 w2 : va_W} {a : Nat} {cJ : ClassId} {n : Nat} {f g : Nat → Int64} {H : Heap} (hfg : ∀ j, j < n → f j = g j) (h : va_P D vwCl (w1 ++ (a, .inl (cJ, n, .inr (.inl f))) :: w2) H) : va_P D vwCl (w1 ++ (a, .inl (cJ, n, .inr (.inl g))) :: w2) H := by
  intro k q hk
  rcases Nat.lt_trichotomy k w1.length with hlt | heq | hgt
  · rw [List.getElem?_append_left hlt] at hk
    exact h k q (by rw [List.getElem?_append_left hlt]; exact hk)
  · subst heq
    have h0 := h w1.length (a, .inl (cJ, n, .inr (.inl f))) (by simp)
    have hq : q = (a, .inl (cJ, n, .inr (.inl g))) := by simpa using hk.symm
    subst hq
    have h1 : H[a]? = some (arrV cJ n (fun j => .long (f j))) := h0
    show H[a]? = some (arrV cJ n (fun j => .long (g j)))
    rw [h1]
    congr 1
    unfold arrV
    congr 1
    apply Array.ext_getElem?
    intro i
    by_cases hi : i < n
    · simp [hi, hfg i hi]
    · simp [hi]
  · rw [List.getElem?_append_right (Nat.le_of_lt hgt)] at hk
    obtain ⟨j, hj⟩ : ∃ j, k - w1.length = j + 1 := ⟨k - w1.length - 1, by omega⟩
    rw [hj] at hk
    refine h k q ?_
    rw [List.getElem?_append_right (Nat.le_of_lt hgt), hj]
    exact hk
