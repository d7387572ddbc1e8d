section
-- ===== PART A: goes FIRST, ahead of the names: the tables' words, and 'selects' of the private methods out of them =====
/-- a private method of a class that the tables say can be made, by its rows of tables_1 -/
def lw_okq (q : MethodName × Nat) : Prop := (q.1.cls ≠ "java/lang/invoke/MethodHandle" ∧ q.1.cls ≠ "java/lang/invoke/VarHandle") ∧ Cond.instantiable q.1.cls q.2 ∈ tables_1 ∧ Cond.privateMethod q.1 ∈ tables_1 ∧ Cond.instanceMethod q.1 ∈ tables_1
theorem lw_p0 : lw_okq (⟨"Shingletrack$Channel", "goOn", "(J)V"⟩, 6) := ⟨⟨by decide +kernel, by decide +kernel⟩, List.mem_of_getElem? (i := 26) (by decide +kernel), List.mem_of_getElem? (i := 224) (by decide +kernel), List.mem_of_getElem? (i := 225) (by decide +kernel)⟩
theorem lw_p1 : lw_okq (⟨"Shingletrack$Platter", "tellsWhatWasSent", "(I)Z"⟩, 13) := ⟨⟨by decide +kernel, by decide +kernel⟩, List.mem_of_getElem? (i := 80) (by decide +kernel), List.mem_of_getElem? (i := 249) (by decide +kernel), List.mem_of_getElem? (i := 250) (by decide +kernel)⟩
theorem lw_p2 : lw_okq (⟨"Shingletrack$Buffer", "indexOf", "(I)I"⟩, 3) := ⟨⟨by decide +kernel, by decide +kernel⟩, List.mem_of_getElem? (i := 62) (by decide +kernel), List.mem_of_getElem? (i := 321) (by decide +kernel), List.mem_of_getElem? (i := 322) (by decide +kernel)⟩
theorem lw_p3 : lw_okq (⟨"java/lang/Throwable", "fillInStackTrace", "(I)Ljava/lang/Throwable;"⟩, 6) := ⟨⟨by decide +kernel, by decide +kernel⟩, List.mem_of_getElem? (i := 381) (by decide +kernel), List.mem_of_getElem? (i := 379) (by decide +kernel), List.mem_of_getElem? (i := 380) (by decide +kernel)⟩
def lw_privs_1 : List (MethodName × Nat) := [(⟨"Shingletrack$Channel", "goOn", "(J)V"⟩, 6), (⟨"Shingletrack$Platter", "tellsWhatWasSent", "(I)Z"⟩, 13), (⟨"Shingletrack$Buffer", "indexOf", "(I)I"⟩, 3), (⟨"java/lang/Throwable", "fillInStackTrace", "(I)Ljava/lang/Throwable;"⟩, 6)]
theorem lw_r1 : ∀ q ∈ lw_privs_1, lw_okq q := List.forall_mem_cons.mpr ⟨lw_p0, List.forall_mem_cons.mpr ⟨lw_p1, List.forall_mem_cons.mpr ⟨lw_p2, List.forall_mem_cons.mpr ⟨lw_p3, fun _ h => absurd h List.not_mem_nil⟩⟩⟩⟩
def lw_privs : List (MethodName × Nat) := lw_privs_1
def lw_tbl : List Cond := k2_sels lw_privs ++ tables_1
theorem lw_privs_ok : ∀ q ∈ lw_privs, lw_okq q := lw_r1
/-! ===== BEGIN words of one list among another's, by their places ===== -/
theorem goodIn_r {big : List Cond} (ws : List Cond) (ps : List Nat) (hp : ws = ps.filterMap (fun i => big[i]?)) (h : ws.all goodWord = true) : GoodIn big ws := by
  intro w hw
  have h1 := List.all_eq_true.mp h w hw
  rw [hp] at hw
  obtain ⟨i, -, hi⟩ := List.mem_filterMap.mp hw
  have hm : w ∈ big := by first | exact List.mem_of_getElem? hi | exact List.getElem?_mem hi
  exact ⟨hm, good_of_word h1⟩
theorem goodIn_app {big a b : List Cond} (ha : GoodIn big a) (hb : GoodIn big b) : GoodIn big (a ++ b) := fun w h => (List.mem_append.mp h).elim (ha w) (hb w)
theorem goodIn_ca {big a b : List Cond} {c : Cond} (ha : GoodIn big (c :: a)) (hb : GoodIn big b) : GoodIn big (c :: (a ++ b)) := fun w h => (List.mem_cons.mp h).elim (fun e => ha w (List.mem_cons.mpr (Or.inl e))) (fun h => (List.mem_append.mp h).elim (fun h => ha w (List.mem_cons.mpr (Or.inr h))) (hb w))
theorem goodIn_sub {big ws : List Cond} (hm : ∀ w ∈ ws, w ∈ big) (h : ws.all goodWord = true) : GoodIn big ws := fun w hw => ⟨hm w hw, good_of_word (List.all_eq_true.mp h w hw)⟩
/-! ===== END ===== -/

/-! ===== BEGIN exceptions that leave a method, and their catching by the caller (launches without stack traces) ===== -/
section VXA
/-! The laws vx_back, vx_callV, vx_callS, vx_callSW, vx_throw0, vx_throwS follow proofs of the library, with one case more: JvmDerived/Free/Laws.lean (Back.of_free), Shelf42/LK1.lean (callV, callS), Shelf/KitTraced.lean (throwNew0V, throwNewS). -/
/-- where a method has thrown q: the class by its name, the cell, what was written, the world -/
def vx_T (XC : String → State → State → Prop) (st : State) (q : Addr) (t : State) (mc ms : Nat) (free : Addr → Prop) : Prop :=
  ∃ (E : String) (ce : Cell) (L : List Loc), XC E st t ∧ t.heap[q]? = some ce ∧ ce.vm = .none ∧ st.vm.findClass E = some ce.cls ∧ st.WarmedH t.vm ∧ st.sameButNew ({ t with vm := st.vm } : State) L mc ms ∧ ∀ z ∈ L, free z.base
def vx_Q (Qc : Array Value → State → Outcome → State → Prop) (XC : String → State → State → Prop) (mc ms : Nat) (free : Addr → Prop) : Array Value → State → Outcome → State → Prop := fun a st o t =>
  (Qc a st o t ∧ ∃ L, FrameEnd st o t L mc ms ∧ ∀ q ∈ L, free q.base) ∨ ∃ q, o = .threw q ∧ vx_T XC st q t mc ms free
/-- a callee that returns or throws -/
def vx_Met (l : Launch) (y : MethodName) (ws : List Cond) (rm : Room) (Pc : Array Value → State → Prop) (Qc : Array Value → State → Outcome → State → Prop) (XC : String → State → State → Prop) (mc ms : Nat) (free : Addr → Prop) : Prop :=
  MetFree l y (headSpec ws rm) Pc (fun _ _ _ _ _ => True) (vx_Q Qc XC mc ms free)
def vx_Post (XC : String → State → State → Prop) (mc ms : Nat) (free : Addr → Prop) : Pt → Array Value → Addr → Pt → Prop := fun A a q B =>
  ∃ (g : JFrame) (mk : MethodId) (t : State) (L : List Loc) (E : String) (ce : Cell), B.U.heap = t.heap ∧ B.U.vm = t.vm ∧ XC E (A.U.calling g mk a) t ∧ t.heap[q]? = some ce ∧ ce.vm = .none ∧ A.U.vm.findClass E = some ce.cls ∧ B.locs = A.locs ++ L ∧ (∀ z ∈ L, free z.base) ∧ B.cells = A.cells + mc ∧ B.slots = A.slots + ms
def vx_Back (l : Launch) (R : Room) (p : Program) (e : Env) (below : List Frame) (s : State) (sargs : Array Value) (y : MethodName) (len W9 : Nat)
    (Pre : Pt → Array Value → Prop) (Post : Pt → Array Value → Option Value → Pt → Prop) (PostX : Pt → Array Value → Addr → Pt → Prop) : Prop :=
  ∀ (m : MethodId) (meth : Method) (c : Code) (A : Pt) (g : JFrame) (ig : Instr) (mk : MethodId) (a : Array Value),
    Stand p l e R s m sargs below meth c A.U A.locs A.cells A.slots → g.method = m → g.locals.size = c.maxLocals → decode c.code g.pc = .ok (ig, len) →
    2 * g.monitorRoom + (g.stack.map fun v => v.category).sum ≤ W9 → A.U.methodNamed? y = some mk → Pre A a →
    (∃ (v : Option Value) (B : Pt), Stand p l e R s m sargs below meth c B.U B.locs B.cells B.slots ∧ Post A a v B ∧
      Steps p.tables e below (doInvoke e (A.U.setTop g) [] mk a).1 (B.U.setTop { g with pc := g.pc + len, stack := v.toList ++ g.stack })) ∨
    (∃ (q : Addr) (B : Pt), Stand p l e R s m sargs below meth c B.U B.locs B.cells B.slots ∧ PostX A a q B ∧
      Steps p.tables e below (doInvoke e (A.U.setTop g) [] mk a).1 ((B.U.setTop g).pushFrame (.throwing q)))
section Payer
variable {l : Launch} {R : Room} {p : Program} {e : Env} {below : List Frame} {s : State} {sargs : Array Value} {y : MethodName} {len W9 : Nat}
theorem vx_back {ws : List Cond} {rm : Room} {Pc : Array Value → State → Prop} {Qc : Array Value → State → Outcome → State → Prop} {XC : String → State → State → Prop} {mc ms : Nat} {free : Addr → Prop} {bytes : ByteArray} {maxL : Nat} {ret : Option FieldType}
    (hM : vx_Met l y ws rm Pc Qc XC mc ms free) (hblind : FrameBlind Pc) (hrc : rm.cells = mc) (hrs : rm.slots = ms)
    (hframes : rm.frames + 1 ≤ R.frames) (hlocals : W9 + (maxL + 11) + rm.locals ≤ R.locals)
    (hws : ∀ w ∈ ws, ∀ a' U, s.WarmedH U.vm → w.before a' U = true) (hcode : Cond.code y bytes maxL ret ∈ ws) (hinit : ∀ a' U, s.WarmedH U.vm → (Cond.initialized y.cls).before a' U = true) :
    vx_Back l R p e below s sargs y len W9 (PreOf R mc ms Pc) (PostOf Qc mc ms free) (vx_Post XC mc ms free) := by
  intro m meth c A g ig mk a X hg hsize hdg hW hn hp
  have h1 : (headSpec ws rm).pre.before a A.U = true := atoms_intro fun w hw => hws w hw _ _ X.warmed
  have h2 : (Cond.code y bytes maxL ret).before a A.U = true := hws _ hcode _ _ X.warmed
  have h3 : (Cond.initialized y.cls).before a A.U = true := hinit _ _ X.warmed
  have h4 : A.cells + (headSpec ws rm).room.cells ≤ R.cells := by rw [show (headSpec ws rm).room.cells = mc from hrc]; exact hp.1
  have h5 : A.slots + (headSpec ws rm).room.slots ≤ R.slots := by rw [show (headSpec ws rm).room.slots = ms from hrs]; exact hp.2.1
  have hPc : Pc a (A.U.calling g mk a) := hblind _ _ _ _ hp.2.2
  obtain ⟨U, Ls, c0, s0⟩ := A
  dsimp only [Pt.U, Pt.locs, Pt.cells, Pt.slots] at h1 h2 h3 h4 h5 X hn hPc ⊢
  obtain ⟨methY, cY, hmY, hcY, -, hlY, -, -, -, -⟩ := Cond.code_spec hn h2
  obtain ⟨kY, hkY, -⟩ := className_of_methodNamed hn
  have hinitY : kY.init = .initialized := Cond.initialized_spec (findClass_of_methodNamed hn) hkY h3
  have h : At U g.method c below := by rw [hg]; exact X.here
  have hlocals9 : W9 + (maxL + 11) + (headSpec ws rm).room.locals ≤ R.locals := hlocals
  have happ : (headSpec ws rm).appliesLoose y e.platform (U.calling g mk a) = true :=
    Spec.appliesLoose_calling (g := g) h hdg hn hkY hinitY
      (X.room_calling (g := g) (R' := (headSpec ws rm).room) hsize hmY hcY hframes (by rw [hlY]; omega) h4 h5) h1
  obtain ⟨mid, hmid⟩ := h.above
  have hfr : (U.setTop g).frames = (.java g :: mid) ++ below := by rw [State.frames_setTop' g h.top, hmid]; rfl
  obtain ⟨o, s₂, hsteps, -, hend, hq⟩ := Steps.callFree hM p X.admits X.cas X.clock (acts := []) hfr happ hPc trivial
  have hq' : vx_Q Qc XC mc ms free a (U.calling g mk a) o s₂ := hq
  rw [State.frames_setTop' g h.top] at hend
  obtain ⟨g₀, hg0⟩ := Option.isSome_iff_exists.mp h.top
  obtain ⟨r, hr⟩ := State.topJava?_eq_some.mp hg0
  have hr' : (({ U with heap := s₂.heap, slotsUsed := s₂.slotsUsed } : State).setVm s₂.vm).frames = .java g₀ :: r := hr
  rcases hq' with ⟨hqc, L, hfe, hL⟩ | ⟨q, rfl, E, ce, L, hx, hce, hcv, hcl, hW₂, hsm, hL⟩
  · obtain ⟨⟨v, rfl⟩, hW₂, e2, q2, q3, q4, q5, q6⟩ := id hfe
    have e3 : s₂ = ({ (U.calling g mk a).setFrames s₂.frames with heap := s₂.heap, slotsUsed := s₂.slotsUsed } : State).setVm s₂.vm := by
      have : s₂ = ({ s₂ with vm := (U.calling g mk a).vm } : State).setVm s₂.vm := rfl
      rw [e2] at this
      exact this
    obtain ⟨c₂, i₂, len₂, hc₂, hd₂, hf₂⟩ := hend
    have hW' : U.WarmedH s₂.vm := hW₂
    have hcc : c₂ = c := by
      have h1 : s₂.code? g.method = U.code? g.method := by
        rw [State.code?_eq, State.code?_eq, hW'.alike.method?]
      exact Option.some.inj (hc₂.symm.trans (h1.trans h.code))
    subst hcc
    have hlen : len₂ = len := by rw [hdg] at hd₂; cases hd₂; rfl
    subst hlen
    have hs₂ : s₂ = (({ U with heap := s₂.heap, slotsUsed := s₂.slotsUsed } : State).setVm s₂.vm).setTop { g with pc := g.pc + len₂, stack := v.toList ++ g.stack } := by
      refine e3.trans ?_
      rw [hf₂, State.calling_eq h.top, State.setFrames_setFrames, State.setTop_of_frames _ hr', hr]
      rfl
    have hsame : U.sameButNew ({ U with heap := s₂.heap, slotsUsed := s₂.slotsUsed } : State) L mc ms := by
      refine ⟨?_, q2, q3, q4, q5, q6⟩
      obtain ⟨t, ht, -⟩ := State.frames_cons hr
      show ({ U with heap := s₂.heap, slotsUsed := s₂.slotsUsed } : State) = { U.setFrames U.frames with heap := s₂.heap, slotsUsed := s₂.slotsUsed }
      rw [State.setFrames_self ht]
    subst hg
    refine Or.inl ⟨v, ⟨(({ U with heap := s₂.heap, slotsUsed := s₂.slotsUsed } : State).setVm s₂.vm), Ls ++ L, c0 + mc, s0 + ms⟩,
      ⟨X.admits, X.cas, X.clock, X.frames, X.room, X.hears, X.method, X.code, (X.here.setHeapUsed s₂.heap s₂.slotsUsed).setVm hW'.alike, X.tail, State.WarmedH.trans X.warmed hW', X.limits, X.bytes, X.same.trans (hsame.setVm s.vm)⟩,
      ⟨g, mk, s₂, L, rfl, rfl, hqc, rfl, hL, rfl, rfl⟩, ?_⟩
    show Steps p.tables e below _ ((({ U with heap := s₂.heap, slotsUsed := s₂.slotsUsed } : State).setVm s₂.vm).setTop { g with pc := g.pc + len₂, stack := v.toList ++ g.stack })
    rw [← hs₂]
    exact hsteps
  · obtain ⟨e2, q2, q3, q4, q5, q6⟩ := id hsm
    have e3 : s₂ = ({ (U.calling g mk a).setFrames s₂.frames with heap := s₂.heap, slotsUsed := s₂.slotsUsed } : State).setVm s₂.vm := by
      have : s₂ = ({ s₂ with vm := (U.calling g mk a).vm } : State).setVm s₂.vm := rfl
      rw [e2] at this
      exact this
    have hf₂ : s₂.frames = .throwing q :: .java g :: U.frames.tail := hend
    have hW' : U.WarmedH s₂.vm := hW₂
    have hs₂ : s₂ = ((({ U with heap := s₂.heap, slotsUsed := s₂.slotsUsed } : State).setVm s₂.vm).setTop g).pushFrame (.throwing q) := by
      refine e3.trans ?_
      rw [hf₂, State.calling_eq h.top, State.setFrames_setFrames, State.pushFrame, State.frames_setTop _ hr', State.setTop_of_frames _ hr', State.setFrames_setFrames, hr]
      rfl
    have hsame : U.sameButNew ({ U with heap := s₂.heap, slotsUsed := s₂.slotsUsed } : State) L mc ms := by
      refine ⟨?_, q2, q3, q4, q5, q6⟩
      obtain ⟨t, ht, -⟩ := State.frames_cons hr
      show ({ U with heap := s₂.heap, slotsUsed := s₂.slotsUsed } : State) = { U.setFrames U.frames with heap := s₂.heap, slotsUsed := s₂.slotsUsed }
      rw [State.setFrames_self ht]
    subst hg
    refine Or.inr ⟨q, ⟨(({ U with heap := s₂.heap, slotsUsed := s₂.slotsUsed } : State).setVm s₂.vm), Ls ++ L, c0 + mc, s0 + ms⟩,
      ⟨X.admits, X.cas, X.clock, X.frames, X.room, X.hears, X.method, X.code, (X.here.setHeapUsed s₂.heap s₂.slotsUsed).setVm hW'.alike, X.tail, State.WarmedH.trans X.warmed hW', X.limits, X.bytes, X.same.trans (hsame.setVm s.vm)⟩,
      ⟨g, mk, s₂, L, E, ce, rfl, rfl, hx, hce, hcv, hcl, rfl, hL, rfl, rfl⟩, ?_⟩
    show Steps p.tables e below _ (((({ U with heap := s₂.heap, slotsUsed := s₂.slotsUsed } : State).setVm s₂.vm).setTop g).pushFrame (.throwing q))
    rw [← hs₂]
    exact hsteps
end Payer
section Calls
variable {p : Program} {l : Launch} {e : Env} {R : Room} {s : State} {m : MethodId} {args : Array Value} {below : List Frame} {meth : Method} {c : Code} {T : State} {locs : List Loc} {cells slots : Nat}
theorem vx_callV (X : Stand p l e R s m args below meth c T locs cells slots) (hexec : p.tables.exec = Jvm.exec) {own C : String} {index : Nat} {y : MethodName} {bytes : ByteArray} {maxL : Nat} {ret : Option FieldType}
    (hown : s.vm.findClass own = some m.cls) (hlink : (Cond.methodLink own index y).before args s = true) (hinst : (Cond.instanceMethod y).before args s = true) (hsel : (Cond.selects C y y).before args s = true)
    (hcode : (Cond.code y bytes maxL ret).before args s = true) (hy : y.cls ≠ "java/lang/invoke/MethodHandle" ∧ y.cls ≠ "java/lang/invoke/VarHandle")
    {W9 : Nat} {Pre : Pt → Array Value → Prop} {Post : Pt → Array Value → Option Value → Pt → Prop} {PostX : Pt → Array Value → Addr → Pt → Prop} (hK : vx_Back l R p e below s args y 3 W9 Pre Post PostX)
    {b : Addr} {cellB : Cell} (hcell : T.heap[b]? = some cellB) (hobj : cellB.vm.isStatics = false) (hcls : s.vm.findClass C = some cellB.cls)
    {g : JFrame} (hg : g.method = m) (hsize : g.locals.size = c.maxLocals) {argsL rest : List Value} (hlen : ∀ sig, parseMethodDescriptor y.desc = some sig → argsL.length = sig.parameters.length)
    (hstack : g.stack = argsL.reverse ++ .ref b :: rest) (hW : 2 * g.monitorRoom + (rest.map fun v => v.category).sum ≤ W9) (hdg : decode c.code g.pc = .ok (.invokevirtual index, 3))
    (hpre : ∀ vm₁, s.WarmedH vm₁ → Pre ⟨T.setVm vm₁, locs, cells, slots⟩ (Value.ref b :: argsL).toArray) :
    (∃ (v : Option Value) (vm₁ : Vm) (B : Pt), s.WarmedH vm₁ ∧ Stand p l e R s m args below meth c B.U B.locs B.cells B.slots ∧ Post ⟨T.setVm vm₁, locs, cells, slots⟩ (Value.ref b :: argsL).toArray v B ∧
      ∀ target, Steps p.tables e below (B.U.setTop { g with pc := g.pc + 3, stack := v.toList ++ rest }) target → Steps p.tables e below (T.setTop g) target) ∨
    (∃ (q : Addr) (vm₁ : Vm) (B : Pt), s.WarmedH vm₁ ∧ Stand p l e R s m args below meth c B.U B.locs B.cells B.slots ∧ PostX ⟨T.setVm vm₁, locs, cells, slots⟩ (Value.ref b :: argsL).toArray q B ∧
      Steps p.tables e below (T.setTop g) ((B.U.setTop { g with stack := rest }).pushFrame (.throwing q))) := by
  obtain ⟨mk, methM, hnamed, hmethM, hstM, habM⟩ := Cond.instanceMethod_spec hinst
  obtain ⟨methM', cM, hmethM', -, -, -, -, -, -, hsigM⟩ := Cond.code_spec hnamed hcode
  cases hmethM.symm.trans hmethM'
  obtain ⟨c2, r2, m2, q1, q2, q3, q4, kP, hkP, hkPi⟩ := Cond.selects_spec hsel
  cases hcls.symm.trans q1
  cases (State.methodFound?_of_named hnamed hy).symm.trans q2
  cases hnamed.symm.trans q3
  have hselP : selectMethod e.platform s.vm cellB.cls mk = .method mk := by rw [Launch.admits_selectMethod X.admits]; exact q4
  obtain ⟨vm₁, X₁, hstep₁⟩ := X.invokevirtual hexec hown hlink hnamed hmethM hstM hkP hkPi hy (a := b) (cell := cellB) hcell
    (fun z h => by rw [h] at hobj; cases hobj) hselP hmethM habM hkP hkPi (g := g) hg (argsL := argsL) (rest := rest) (hlen _ hsigM) hstack hdg
  rcases hK m meth c ⟨T.setVm vm₁, locs, cells, slots⟩ { g with stack := rest } (.invokevirtual index) mk (Value.ref b :: argsL).toArray X₁ hg hsize hdg hW (X₁.named hnamed) (hpre vm₁ X₁.warmed) with ⟨v, B, X', hpost, hsteps⟩ | ⟨q, B, X', hpost, hsteps⟩
  · exact Or.inl ⟨v, vm₁, B, X₁.warmed, X', hpost, fun target h => hstep₁ _ fun acts => by rw [doInvoke_state]; exact hsteps.trans h⟩
  · exact Or.inr ⟨q, vm₁, B, X₁.warmed, X', hpost, hstep₁ _ fun acts => by rw [doInvoke_state]; exact hsteps⟩
theorem vx_callS (X : Stand p l e R s m args below meth c T locs cells slots) (hexec : p.tables.exec = Jvm.exec) {own : String} {index : Nat} {y : MethodName} {bytes : ByteArray} {maxL : Nat} {ret : Option FieldType}
    (hown : s.vm.findClass own = some m.cls) (hlink : (Cond.methodLink own index y).before args s = true) (hstat : (Cond.static y).before args s = true) (hinit : (Cond.initialized y.cls).before args s = true)
    (hcode : (Cond.code y bytes maxL ret).before args s = true) (hy : y.cls ≠ "java/lang/invoke/MethodHandle" ∧ y.cls ≠ "java/lang/invoke/VarHandle")
    {W9 : Nat} {Pre : Pt → Array Value → Prop} {Post : Pt → Array Value → Option Value → Pt → Prop} {PostX : Pt → Array Value → Addr → Pt → Prop} (hK : vx_Back l R p e below s args y 3 W9 Pre Post PostX)
    {g : JFrame} (hg : g.method = m) (hsize : g.locals.size = c.maxLocals) {argsL rest : List Value} (hlen : ∀ sig, parseMethodDescriptor y.desc = some sig → argsL.length = sig.parameters.length)
    (hstack : g.stack = argsL.reverse ++ rest) (hW : 2 * g.monitorRoom + (rest.map fun v => v.category).sum ≤ W9) (hdg : decode c.code g.pc = .ok (.invokestatic index, 3))
    (hpre : ∀ vm₁, s.WarmedH vm₁ → Pre ⟨T.setVm vm₁, locs, cells, slots⟩ argsL.toArray) :
    (∃ (v : Option Value) (vm₁ : Vm) (B : Pt), s.WarmedH vm₁ ∧ Stand p l e R s m args below meth c B.U B.locs B.cells B.slots ∧ Post ⟨T.setVm vm₁, locs, cells, slots⟩ argsL.toArray v B ∧
      ∀ target, Steps p.tables e below (B.U.setTop { g with pc := g.pc + 3, stack := v.toList ++ rest }) target → Steps p.tables e below (T.setTop g) target) ∨
    (∃ (q : Addr) (vm₁ : Vm) (B : Pt), s.WarmedH vm₁ ∧ Stand p l e R s m args below meth c B.U B.locs B.cells B.slots ∧ PostX ⟨T.setVm vm₁, locs, cells, slots⟩ argsL.toArray q B ∧
      Steps p.tables e below (T.setTop g) ((B.U.setTop { g with stack := rest }).pushFrame (.throwing q))) := by
  obtain ⟨mk, hnamed⟩ := Cond.code_named hcode
  obtain ⟨methM, cM, hmethM, -, -, -, -, -, -, hsigM⟩ := Cond.code_spec hnamed hcode
  have hstatic : methM.isStatic = true := Cond.static_spec hnamed hmethM hstat
  obtain ⟨kP, hkP, -⟩ := className_of_methodNamed hnamed
  have hinitP : kP.init = .initialized := Cond.initialized_spec (findClass_of_methodNamed hnamed) hkP hinit
  obtain ⟨vm₁, X₁, hstep₁⟩ := X.invokestatic hexec hown hlink hnamed hmethM hstatic hkP hinitP hy (g := g) hg (argsL := argsL) (rest := rest) (hlen _ hsigM) hstack hdg
  rcases hK m meth c ⟨T.setVm vm₁, locs, cells, slots⟩ { g with stack := rest } (.invokestatic index) mk argsL.toArray X₁ hg hsize hdg hW (X₁.named hnamed) (hpre vm₁ X₁.warmed) with ⟨v, B, X', hpost, hsteps⟩ | ⟨q, B, X', hpost, hsteps⟩
  · exact Or.inl ⟨v, vm₁, B, X₁.warmed, X', hpost, fun target h => hstep₁ _ fun acts => by rw [doInvoke_state]; exact hsteps.trans h⟩
  · exact Or.inr ⟨q, vm₁, B, X₁.warmed, X', hpost, hstep₁ _ fun acts => by rw [doInvoke_state]; exact hsteps⟩
end Calls
theorem vx_cls {s : State} {T : State} {vm₁ : Vm} {E : String} {k : ClassId} (hW : s.WarmedH vm₁) (h : (T.setVm vm₁).vm.findClass E = some k) : s.vm.findClass E = some k := by
  have h1 : vm₁.findClass E = some k := h
  rw [hW.alike.findClass] at h1
  exact h1
/-- the method's frame g, with q thrown over it -/
def vx_W (p : Program) (l : Launch) (e : Env) (R : Room) (s : State) (m : MethodId) (args : Array Value) (below : List Frame) (meth : Method) (c : Code) (H : Heap) (locs : List Loc) (cells slots : Nat) (Q : State → Prop) (g : JFrame) (q : Addr) : Prop :=
  ∀ T : State, T.heap = H → Stand p l e R s m args below meth c T locs cells slots → ∃ t, Steps p.tables e below ((T.setTop g).pushFrame (.throwing q)) t ∧ Q t
def vx_Run (p : Program) (l : Launch) (e : Env) (R : Room) (s : State) (m : MethodId) (args : Array Value) (below : List Frame) (meth : Method) (c : Code) (H : Heap) (locs : List Loc) (cells slots mc ms : Nat) (g : JFrame) (rest : List Value) (Qa : State → Outcome → State → Prop) (XC : String → State → State → Prop) (free : Addr → Prop) : Prop :=
  ∀ T : State, T.heap = H → Stand p l e R s m args below meth c T locs cells slots →
    (∃ (v : Option Value) (st₀ t T' : State) (L : List Loc), st₀.heap = H ∧ Stand p l e R s m args below meth c T' (locs ++ L) (cells + mc) (slots + ms) ∧ (∀ q ∈ L, free q.base) ∧ T'.heap = t.heap ∧ T'.vm = t.vm ∧ Qa st₀ (.returned v) t ∧
      Goes p e below T g T' { g with pc := g.pc + 3, stack := v.toList ++ rest }) ∨
    (∃ (q : Addr) (st₀ t T' : State) (L : List Loc) (E : String) (ce : Cell), st₀.heap = H ∧ Stand p l e R s m args below meth c T' (locs ++ L) (cells + mc) (slots + ms) ∧ (∀ z ∈ L, free z.base) ∧ T'.heap = t.heap ∧ T'.vm = t.vm ∧ XC E st₀ t ∧ t.heap[q]? = some ce ∧ ce.vm = .none ∧ s.vm.findClass E = some ce.cls ∧
      Steps p.tables e below (T.setTop g) ((T'.setTop { g with stack := rest }).pushFrame (.throwing q)))
def vx_X {S : Type} (px : S → Prop) (B : String → S → State → Prop) (A : Nat → Prop) : String → State → State → Prop := fun E st t => ∃ u : S, px u ∧ B E u t ∧ va_F A st t
section Runs
variable {p : Program} {l : Launch} {e : Env} {R : Room} {s : State} {m : MethodId} {args : Array Value} {below : List Frame} {meth : Method} {c : Code} {H : Heap} {locs : List Loc} {cells slots : Nat}
variable {y : MethodName} {bytes cc : ByteArray} {maxL nL mc ms n index : Nat} {ret : Option FieldType} {ws : List Cond} {rm : Room} {Pc : Array Value → State → Prop} {Qc : Array Value → State → Outcome → State → Prop} {XC : String → State → State → Prop} {free : Addr → Prop} {Ts : List Cond} {own C : String} {b : Addr} {As rest : List Value} {g : JFrame}
theorem vx_callBack (cb : CallB R s args own index y bytes maxL ret ws rm mc ms n) (hM : vx_Met l y ws rm Pc Qc XC mc ms free) (hbl : FrameBlind Pc) : vx_Back l R p e below s args y 3 8 (PreOf R mc ms Pc) (PostOf Qc mc ms free) (vx_Post XC mc ms free) := by
  obtain ⟨hrc, hrs, hfr, hlo, hws, hcw, -, hini, -⟩ := cb
  exact vx_back (bytes := bytes) (maxL := maxL) (ret := ret) hM hbl hrc hrs hfr hlo hws hcw (fun a' U hW => word_at hW (Or.inl (by first | rfl | simp [Cond.onTables, Cond.keeps, Cond.steady])) hini)
theorem vx_runV (S : CallFix p m c cc nL s args Ts own) (hM : vx_Met l y ws rm Pc Qc XC mc ms free) (cw : CallW R s args own C index y bytes maxL ret ws rm mc ms n) (hp : PreV s H C b Pc As)
    (hg : g.method = m) (hn : As.length = n) (hsize : g.locals.size = nL) (hstack : g.stack = As.reverse ++ .ref b :: rest) (hW : 2 * g.monitorRoom + (rest.map fun v => v.category).sum ≤ 8) (hdg : decode cc g.pc = .ok (.invokevirtual index, 3)) (hf : cells + mc ≤ R.cells ∧ slots + ms ≤ R.slots) :
    vx_Run p l e R s m args below meth c H locs cells slots mc ms g rest (Qc (Value.ref b :: As).toArray) XC free := by
  have hK : vx_Back l R p e below s args y 3 8 (PreOf R mc ms Pc) (PostOf Qc mc ms free) (vx_Post XC mc ms free) := vx_callBack cw.1 hM hp.1
  obtain ⟨⟨-, -, -, -, -, -, hcode, -, hy, hlen, hl⟩, hin, hse⟩ := cw
  obtain ⟨hx, hb, hml, ho, -⟩ := S
  obtain ⟨-, ⟨cellB, hcB, hoB, hclB⟩, hPc⟩ := hp
  intro T hT X
  rcases vx_callV X hx (C := C) (bytes := bytes) (maxL := maxL) (ret := ret) ho hl hin hse hcode hy hK (by rw [hT]; exact hcB) hoB hclB hg (hsize.trans hml.symm) (argsL := As) (rest := rest) (fun sig h => hn.trans (hlen sig h)) hstack hW (by rw [hb]; exact hdg)
    (fun vm₁ hW₁ => ⟨hf.1, hf.2, hPc (T.setVm vm₁) hT hW₁⟩) with ⟨v, vm₁, ⟨U', l2, c2, s2⟩, hW₁, X', ⟨g', mk, t, L, e1, e2, hq, h1, hL, h2, h3⟩, st⟩ | ⟨q, vm₁, ⟨U', l2, c2, s2⟩, hW₁, X', ⟨g', mk, t, L, E, ce, e1, e2, hq, hce, hcv, hcl, h1, hL, h2, h3⟩, st⟩
  · dsimp only [Pt.U, Pt.locs, Pt.cells, Pt.slots] at X' e1 e2 h1 h2 h3 st
    subst h1; subst h2; subst h3
    exact Or.inl ⟨v, (T.setVm vm₁).calling g' mk (Value.ref b :: As).toArray, t, U', L, hT, X', hL, e1, e2, hq, st⟩
  · dsimp only [Pt.U, Pt.locs, Pt.cells, Pt.slots] at X' e1 e2 h1 h2 h3 st hcl
    subst h1; subst h2; subst h3
    exact Or.inr ⟨q, (T.setVm vm₁).calling g' mk (Value.ref b :: As).toArray, t, U', L, E, ce, hT, X', hL, e1, e2, hq, hce, hcv, vx_cls hW₁ hcl, st⟩
theorem vx_runS (S : CallFix p m c cc nL s args Ts own) (hM : vx_Met l y ws rm Pc Qc XC mc ms free) (cw : CallB R s args own index y bytes maxL ret ws rm mc ms n ∧ (Cond.static y).before args s = true) (hp : PreS s H Pc As)
    (hg : g.method = m) (hn : As.length = n) (hsize : g.locals.size = nL) (hstack : g.stack = As.reverse ++ rest) (hW : 2 * g.monitorRoom + (rest.map fun v => v.category).sum ≤ 8) (hdg : decode cc g.pc = .ok (.invokestatic index, 3)) (hf : cells + mc ≤ R.cells ∧ slots + ms ≤ R.slots) :
    vx_Run p l e R s m args below meth c H locs cells slots mc ms g rest (Qc As.toArray) XC free := by
  have hK : vx_Back l R p e below s args y 3 8 (PreOf R mc ms Pc) (PostOf Qc mc ms free) (vx_Post XC mc ms free) := vx_callBack cw.1 hM hp.1
  obtain ⟨⟨-, -, -, -, -, -, hcode, hini, hy, hlen, hl⟩, hstt⟩ := cw
  obtain ⟨hx, hb, hml, ho, -⟩ := S
  intro T hT X
  rcases vx_callS X hx (bytes := bytes) (maxL := maxL) (ret := ret) ho hl hstt hini hcode hy hK hg (hsize.trans hml.symm) (argsL := As) (rest := rest) (fun sig h => hn.trans (hlen sig h)) hstack hW (by rw [hb]; exact hdg)
    (fun vm₁ hW₁ => ⟨hf.1, hf.2, hp.2 (T.setVm vm₁) hT hW₁⟩) with ⟨v, vm₁, ⟨U', l2, c2, s2⟩, hW₁, X', ⟨g', mk, t, L, e1, e2, hq, h1, hL, h2, h3⟩, st⟩ | ⟨q, vm₁, ⟨U', l2, c2, s2⟩, hW₁, X', ⟨g', mk, t, L, E, ce, e1, e2, hq, hce, hcv, hcl, h1, hL, h2, h3⟩, st⟩
  · dsimp only [Pt.U, Pt.locs, Pt.cells, Pt.slots] at X' e1 e2 h1 h2 h3 st
    subst h1; subst h2; subst h3
    exact Or.inl ⟨v, (T.setVm vm₁).calling g' mk As.toArray, t, U', L, hT, X', hL, e1, e2, hq, st⟩
  · dsimp only [Pt.U, Pt.locs, Pt.cells, Pt.slots] at X' e1 e2 h1 h2 h3 st hcl
    subst h1; subst h2; subst h3
    exact Or.inr ⟨q, (T.setVm vm₁).calling g' mk As.toArray, t, U', L, E, ce, hT, X', hL, e1, e2, hq, hce, hcv, vx_cls hW₁ hcl, st⟩
end Runs
section Rows
variable {p : Program} {l : Launch} {e : Env} {R : Room} {s : State} {m : MethodId} {args : Array Value} {below : List Frame} {meth : Method} {c : Code} {H : Heap} {locs : List Loc} {cells slots : Nat} {Q : State → Prop}
variable {mc ms : Nat} {free : Addr → Prop} {A0 A1 : Nat → Prop} {H0 : Heap} {a : Array Value} {pc : Nat} {ls : Array Slot} {st0 rest : List Value}
theorem vx_keep {st₀ t T' : State} {L : List Loc} (h0 : st₀.heap = H) (e1 : T'.heap = t.heap) (hS : va_S A0 H0 H locs) (hA : ∀ q, q < H.size → A1 q → A0 q) (hf : ∀ q, free q → A0 q) (hL : ∀ q ∈ L, free q.base) (hF : va_F A1 st₀ t) :
    H.size ≤ T'.heap.size ∧ (∀ q : Nat, q < H.size → ¬ A1 q → T'.heap[q]? = H[q]?) ∧ va_S A0 H0 T'.heap (locs ++ L) := by
  obtain ⟨hz, hk⟩ := hF
  rw [h0] at hz hk
  exact ⟨by rw [e1]; exact hz, fun q h1 h2 => by rw [e1]; exact hk q h1 h2,
    ⟨Nat.le_trans hS.1 (by rw [e1]; exact hz), fun q h1 h2 => by rw [e1, hk q (Nat.lt_of_lt_of_le h1 hS.1) (fun z => h2 (hA q (Nat.lt_of_lt_of_le h1 hS.1) z))]; exact hS.2.1 q h1 h2, fun q hq => by
      rcases List.mem_append.mp hq with h | h
      · exact hS.2.2 q h
      · exact hf _ (hL q h)⟩⟩
theorem vx_calli {S SX : Type} {post : Int32 → S → Prop} {px : SX → Prop} {B : S → State → Prop} {BX : String → SX → State → Prop} {AX : Nat → Prop} (hr : vx_Run p l e R s m args below meth c H locs cells slots mc ms (F0 m pc ls st0) rest (va_Qi post B A1 a) (vx_X px BX AX) free) (hS : va_S A0 H0 H locs) (hA : ∀ q, q < H.size → A1 q → A0 q) (hf : ∀ q, free q → A0 q) (hAX : ∀ q, q < H.size → AX q → A0 q)
    (kx : ∀ (E : String) (ce : Cell) (q9 : Addr) (u : SX) (t : State) (H1 : Heap) (locs1 : List Loc), t.heap = H1 → s.vm.Alike t.vm → px u → BX E u t → H.size ≤ H1.size → (∀ q : Nat, q < H.size → ¬ AX q → H1[q]? = H[q]?) → va_S A0 H0 H1 locs1 → H1[q9]? = some ce → ce.vm = .none → s.vm.findClass E = some ce.cls → vx_W p l e R s m args below meth c H1 locs1 (cells + mc) (slots + ms) Q (F0 m pc ls rest) q9)
    (kk : ∀ (r : Int32) (u : S) (t : State) (H1 : Heap) (locs1 : List Loc), t.heap = H1 → s.vm.Alike t.vm → post r u → B u t → H.size ≤ H1.size → (∀ q : Nat, q < H.size → ¬ A1 q → H1[q]? = H[q]?) → va_S A0 H0 H1 locs1 → W p l e R s m args below meth c H1 locs1 (cells + mc) (slots + ms) Q (F0 m (pc + 3) ls (.int r :: rest))) : W p l e R s m args below meth c H locs cells slots Q (F0 m pc ls st0) := by
  intro T hT X
  rcases hr T hT X with ⟨v, st₀, t, T', L, h0, X', hL, e1, e2, ⟨⟨r, u, hv, hp, hb⟩, hF⟩, st⟩ | ⟨q, st₀, t, T', L, E, ce, h0, X', hL, e1, e2, ⟨u, hp, hb, hF⟩, hce, hcv, hcl, st⟩
  · cases hv
    obtain ⟨k1, k2, k3⟩ := vx_keep h0 e1 hS hA hf hL hF
    obtain ⟨t2, a1, b1⟩ := kk r u t T'.heap (locs ++ L) e1.symm (by rw [← e2]; exact X'.warmed.alike) hp hb k1 k2 k3 T' rfl X'
    exact ⟨t2, st t2 a1, b1⟩
  · obtain ⟨k1, k2, k3⟩ := vx_keep h0 e1 hS hAX hf hL hF
    obtain ⟨t2, a1, b1⟩ := kx E ce q u t T'.heap (locs ++ L) e1.symm (by rw [← e2]; exact X'.warmed.alike) hp hb k1 k2 k3 (by rw [e1]; exact hce) hcv hcl T' rfl X'
    exact ⟨t2, st.trans a1, b1⟩
theorem vx_calll {S SX : Type} {post : Int64 → S → Prop} {px : SX → Prop} {B : S → State → Prop} {BX : String → SX → State → Prop} {AX : Nat → Prop} (hr : vx_Run p l e R s m args below meth c H locs cells slots mc ms (F0 m pc ls st0) rest (va_Ql post B A1 a) (vx_X px BX AX) free) (hS : va_S A0 H0 H locs) (hA : ∀ q, q < H.size → A1 q → A0 q) (hf : ∀ q, free q → A0 q) (hAX : ∀ q, q < H.size → AX q → A0 q)
    (kx : ∀ (E : String) (ce : Cell) (q9 : Addr) (u : SX) (t : State) (H1 : Heap) (locs1 : List Loc), t.heap = H1 → s.vm.Alike t.vm → px u → BX E u t → H.size ≤ H1.size → (∀ q : Nat, q < H.size → ¬ AX q → H1[q]? = H[q]?) → va_S A0 H0 H1 locs1 → H1[q9]? = some ce → ce.vm = .none → s.vm.findClass E = some ce.cls → vx_W p l e R s m args below meth c H1 locs1 (cells + mc) (slots + ms) Q (F0 m pc ls rest) q9)
    (kk : ∀ (r : Int64) (u : S) (t : State) (H1 : Heap) (locs1 : List Loc), t.heap = H1 → s.vm.Alike t.vm → post r u → B u t → H.size ≤ H1.size → (∀ q : Nat, q < H.size → ¬ A1 q → H1[q]? = H[q]?) → va_S A0 H0 H1 locs1 → W p l e R s m args below meth c H1 locs1 (cells + mc) (slots + ms) Q (F0 m (pc + 3) ls (.long r :: rest))) : W p l e R s m args below meth c H locs cells slots Q (F0 m pc ls st0) := by
  intro T hT X
  rcases hr T hT X with ⟨v, st₀, t, T', L, h0, X', hL, e1, e2, ⟨⟨r, u, hv, hp, hb⟩, hF⟩, st⟩ | ⟨q, st₀, t, T', L, E, ce, h0, X', hL, e1, e2, ⟨u, hp, hb, hF⟩, hce, hcv, hcl, st⟩
  · cases hv
    obtain ⟨k1, k2, k3⟩ := vx_keep h0 e1 hS hA hf hL hF
    obtain ⟨t2, a1, b1⟩ := kk r u t T'.heap (locs ++ L) e1.symm (by rw [← e2]; exact X'.warmed.alike) hp hb k1 k2 k3 T' rfl X'
    exact ⟨t2, st t2 a1, b1⟩
  · obtain ⟨k1, k2, k3⟩ := vx_keep h0 e1 hS hAX hf hL hF
    obtain ⟨t2, a1, b1⟩ := kx E ce q u t T'.heap (locs ++ L) e1.symm (by rw [← e2]; exact X'.warmed.alike) hp hb k1 k2 k3 (by rw [e1]; exact hce) hcv hcl T' rfl X'
    exact ⟨t2, st.trans a1, b1⟩
theorem vx_callf {S SX : Type} {post : UInt32 → S → Prop} {px : SX → Prop} {B : S → State → Prop} {BX : String → SX → State → Prop} {AX : Nat → Prop} (hr : vx_Run p l e R s m args below meth c H locs cells slots mc ms (F0 m pc ls st0) rest (va_Qf post B A1 a) (vx_X px BX AX) free) (hS : va_S A0 H0 H locs) (hA : ∀ q, q < H.size → A1 q → A0 q) (hf : ∀ q, free q → A0 q) (hAX : ∀ q, q < H.size → AX q → A0 q)
    (kx : ∀ (E : String) (ce : Cell) (q9 : Addr) (u : SX) (t : State) (H1 : Heap) (locs1 : List Loc), t.heap = H1 → s.vm.Alike t.vm → px u → BX E u t → H.size ≤ H1.size → (∀ q : Nat, q < H.size → ¬ AX q → H1[q]? = H[q]?) → va_S A0 H0 H1 locs1 → H1[q9]? = some ce → ce.vm = .none → s.vm.findClass E = some ce.cls → vx_W p l e R s m args below meth c H1 locs1 (cells + mc) (slots + ms) Q (F0 m pc ls rest) q9)
    (kk : ∀ (r : UInt32) (u : S) (t : State) (H1 : Heap) (locs1 : List Loc), t.heap = H1 → s.vm.Alike t.vm → post r u → B u t → H.size ≤ H1.size → (∀ q : Nat, q < H.size → ¬ A1 q → H1[q]? = H[q]?) → va_S A0 H0 H1 locs1 → W p l e R s m args below meth c H1 locs1 (cells + mc) (slots + ms) Q (F0 m (pc + 3) ls (.float r :: rest))) : W p l e R s m args below meth c H locs cells slots Q (F0 m pc ls st0) := by
  intro T hT X
  rcases hr T hT X with ⟨v, st₀, t, T', L, h0, X', hL, e1, e2, ⟨⟨r, u, hv, hp, hb⟩, hF⟩, st⟩ | ⟨q, st₀, t, T', L, E, ce, h0, X', hL, e1, e2, ⟨u, hp, hb, hF⟩, hce, hcv, hcl, st⟩
  · cases hv
    obtain ⟨k1, k2, k3⟩ := vx_keep h0 e1 hS hA hf hL hF
    obtain ⟨t2, a1, b1⟩ := kk r u t T'.heap (locs ++ L) e1.symm (by rw [← e2]; exact X'.warmed.alike) hp hb k1 k2 k3 T' rfl X'
    exact ⟨t2, st t2 a1, b1⟩
  · obtain ⟨k1, k2, k3⟩ := vx_keep h0 e1 hS hAX hf hL hF
    obtain ⟨t2, a1, b1⟩ := kx E ce q u t T'.heap (locs ++ L) e1.symm (by rw [← e2]; exact X'.warmed.alike) hp hb k1 k2 k3 (by rw [e1]; exact hce) hcv hcl T' rfl X'
    exact ⟨t2, st.trans a1, b1⟩
theorem vx_calld {S SX : Type} {post : UInt64 → S → Prop} {px : SX → Prop} {B : S → State → Prop} {BX : String → SX → State → Prop} {AX : Nat → Prop} (hr : vx_Run p l e R s m args below meth c H locs cells slots mc ms (F0 m pc ls st0) rest (va_Qd post B A1 a) (vx_X px BX AX) free) (hS : va_S A0 H0 H locs) (hA : ∀ q, q < H.size → A1 q → A0 q) (hf : ∀ q, free q → A0 q) (hAX : ∀ q, q < H.size → AX q → A0 q)
    (kx : ∀ (E : String) (ce : Cell) (q9 : Addr) (u : SX) (t : State) (H1 : Heap) (locs1 : List Loc), t.heap = H1 → s.vm.Alike t.vm → px u → BX E u t → H.size ≤ H1.size → (∀ q : Nat, q < H.size → ¬ AX q → H1[q]? = H[q]?) → va_S A0 H0 H1 locs1 → H1[q9]? = some ce → ce.vm = .none → s.vm.findClass E = some ce.cls → vx_W p l e R s m args below meth c H1 locs1 (cells + mc) (slots + ms) Q (F0 m pc ls rest) q9)
    (kk : ∀ (r : UInt64) (u : S) (t : State) (H1 : Heap) (locs1 : List Loc), t.heap = H1 → s.vm.Alike t.vm → post r u → B u t → H.size ≤ H1.size → (∀ q : Nat, q < H.size → ¬ A1 q → H1[q]? = H[q]?) → va_S A0 H0 H1 locs1 → W p l e R s m args below meth c H1 locs1 (cells + mc) (slots + ms) Q (F0 m (pc + 3) ls (.double r :: rest))) : W p l e R s m args below meth c H locs cells slots Q (F0 m pc ls st0) := by
  intro T hT X
  rcases hr T hT X with ⟨v, st₀, t, T', L, h0, X', hL, e1, e2, ⟨⟨r, u, hv, hp, hb⟩, hF⟩, st⟩ | ⟨q, st₀, t, T', L, E, ce, h0, X', hL, e1, e2, ⟨u, hp, hb, hF⟩, hce, hcv, hcl, st⟩
  · cases hv
    obtain ⟨k1, k2, k3⟩ := vx_keep h0 e1 hS hA hf hL hF
    obtain ⟨t2, a1, b1⟩ := kk r u t T'.heap (locs ++ L) e1.symm (by rw [← e2]; exact X'.warmed.alike) hp hb k1 k2 k3 T' rfl X'
    exact ⟨t2, st t2 a1, b1⟩
  · obtain ⟨k1, k2, k3⟩ := vx_keep h0 e1 hS hAX hf hL hF
    obtain ⟨t2, a1, b1⟩ := kx E ce q u t T'.heap (locs ++ L) e1.symm (by rw [← e2]; exact X'.warmed.alike) hp hb k1 k2 k3 (by rw [e1]; exact hce) hcv hcl T' rfl X'
    exact ⟨t2, st.trans a1, b1⟩
theorem vx_callv {S SX : Type} {post : S → Prop} {px : SX → Prop} {B : S → State → Prop} {BX : String → SX → State → Prop} {AX : Nat → Prop} (hr : vx_Run p l e R s m args below meth c H locs cells slots mc ms (F0 m pc ls st0) rest (va_Qv post B A1 a) (vx_X px BX AX) free) (hS : va_S A0 H0 H locs) (hA : ∀ q, q < H.size → A1 q → A0 q) (hf : ∀ q, free q → A0 q) (hAX : ∀ q, q < H.size → AX q → A0 q)
    (kx : ∀ (E : String) (ce : Cell) (q9 : Addr) (u : SX) (t : State) (H1 : Heap) (locs1 : List Loc), t.heap = H1 → s.vm.Alike t.vm → px u → BX E u t → H.size ≤ H1.size → (∀ q : Nat, q < H.size → ¬ AX q → H1[q]? = H[q]?) → va_S A0 H0 H1 locs1 → H1[q9]? = some ce → ce.vm = .none → s.vm.findClass E = some ce.cls → vx_W p l e R s m args below meth c H1 locs1 (cells + mc) (slots + ms) Q (F0 m pc ls rest) q9)
    (kk : ∀ (u : S) (t : State) (H1 : Heap) (locs1 : List Loc), t.heap = H1 → s.vm.Alike t.vm → post u → B u t → H.size ≤ H1.size → (∀ q : Nat, q < H.size → ¬ A1 q → H1[q]? = H[q]?) → va_S A0 H0 H1 locs1 → W p l e R s m args below meth c H1 locs1 (cells + mc) (slots + ms) Q (F0 m (pc + 3) ls (rest))) : W p l e R s m args below meth c H locs cells slots Q (F0 m pc ls st0) := by
  intro T hT X
  rcases hr T hT X with ⟨v, st₀, t, T', L, h0, X', hL, e1, e2, ⟨⟨u, hv, hp, hb⟩, hF⟩, st⟩ | ⟨q, st₀, t, T', L, E, ce, h0, X', hL, e1, e2, ⟨u, hp, hb, hF⟩, hce, hcv, hcl, st⟩
  · cases hv
    obtain ⟨k1, k2, k3⟩ := vx_keep h0 e1 hS hA hf hL hF
    obtain ⟨t2, a1, b1⟩ := kk u t T'.heap (locs ++ L) e1.symm (by rw [← e2]; exact X'.warmed.alike) hp hb k1 k2 k3 T' rfl X'
    exact ⟨t2, st t2 a1, b1⟩
  · obtain ⟨k1, k2, k3⟩ := vx_keep h0 e1 hS hAX hf hL hF
    obtain ⟨t2, a1, b1⟩ := kx E ce q u t T'.heap (locs ++ L) e1.symm (by rw [← e2]; exact X'.warmed.alike) hp hb k1 k2 k3 (by rw [e1]; exact hce) hcv hcl T' rfl X'
    exact ⟨t2, st.trans a1, b1⟩
/-- caught by the row x of this method's table; the rows ahead don't take it -/
theorem vx_catch {own name : String} {E : String} {ce : Cell} {q : Addr} (hown : s.vm.findClass own = some m.cls) (pre : List ExceptionTableEntry) (x : ExceptionTableEntry) (suf : List ExceptionTableEntry) (hsplit : c.exceptionTable.toList = pre ++ x :: suf)
    (hpass : ∀ z ∈ pre, covers z pc = false ∨ (z.catchType ≠ 0 ∧ ∃ nm : String, (Cond.classLink own z.catchType nm).before args s = true ∧ va_Nc E nm s)) (hx : covers x pc = true) (h0 : x.catchType ≠ 0)
    (hlink : (Cond.classLink own x.catchType name).before args s = true) (hcast : (Cond.castable E name).before args s = true) (hcell : H[q]? = some ce) (hv : ce.vm = .none) (hcl : s.vm.findClass E = some ce.cls)
    (kk : W p l e R s m args below meth c H locs cells slots Q (F0 m x.handlerPc ls [.ref q])) : vx_W p l e R s m args below meth c H locs cells slots Q (F0 m pc ls rest) q := by
  intro T hT X
  have hpl : e.platform.magicAccessors = ({} : Platform).magicAccessors := by rw [X.admits.platform]
  obtain ⟨c3, c4, hc3, hc4, hasg⟩ := Cond.castable_spec hcast
  cases Option.some.inj (hc3.symm.trans hcl)
  obtain ⟨c5, hc5, hcl5⟩ := Cond.classLink_spec hown hlink e.platform hpl
  cases Option.some.inj (hc4.symm.trans hc5)
  obtain ⟨vm', X', st⟩ := X.thenCaughtThrough q (g := F0 m pc ls rest) rfl (Steps.refl _) (by rw [hT]; exact hcell) (by rw [hv]; rfl) (by obtain ⟨k9, h9, -⟩ := Vm.findClass_spec hcl; exact ⟨k9, h9⟩) pre x suf hsplit
    (fun z hz => by
      rcases hpass z hz with h | ⟨hz0, nm, hl1, hn1⟩
      · exact Or.inl h
      · obtain ⟨c6, hc6, hcl6⟩ := Cond.classLink_spec hown hl1 e.platform hpl
        obtain ⟨a8, b8, h1, h2, h3⟩ := hn1
        cases Option.some.inj (h1.symm.trans hcl)
        cases Option.some.inj (h2.symm.trans hc6)
        exact Or.inr ⟨hz0, _, hcl6, h3⟩) hx (Or.inr ⟨h0, c4, hcl5, hasg⟩)
  obtain ⟨t, a1, b1⟩ := kk (T.setVm vm') hT X'
  exact ⟨t, st.trans a1, b1⟩
end Rows
section Ends
variable {p : Program} {l : Launch} {e : Env} {R : Room} {s : State} {m : MethodId} {args : Array Value} {below : List Frame} {meth : Method} {c : Code} {H : Heap} {locs : List Loc} {cells slots : Nat} {Q : State → Prop}
variable {mc ms : Nat} {free : Addr → Prop} {A0 A1 : Nat → Prop} {H0 : Heap} {a : Array Value} {ls : Array Slot} {st0 rest : List Value}
variable {Qc : Array Value → State → Outcome → State → Prop} {XC : String → State → State → Prop}
/-- what a body that may throw owes at its end -/
def vx_MQ (below : List Frame) (Qc : Array Value → State → Outcome → State → Prop) (XC : String → State → State → Prop) (a : Array Value) (s : State) (mc ms : Nat) (free : Addr → Prop) : State → Prop := fun t =>
  ∃ o, t.status = .running ∧ Ended t below o ∧ vx_Q Qc XC mc ms free a s o t
theorem vx_ret {g : JFrame} {mc ms : Nat} (k : W p l e R s m args below meth c H locs cells slots (MQ below Qc args s mc ms free) g) : W p l e R s m args below meth c H locs cells slots (vx_MQ below Qc XC args s mc ms free) g := by
  intro T hT X
  obtain ⟨t, a1, o, b1, b2, b3, b4⟩ := k T hT X
  exact ⟨t, a1, o, b1, b2, Or.inl ⟨b3, b4⟩⟩
/-- not caught here: it goes on to the caller -/
theorem vx_widen {g : JFrame} {q : Addr} {k n : Nat} (h1 : cells ≤ k) (h2 : slots ≤ n) (kk : vx_W p l e R s m args below meth c H locs k n Q g q) : vx_W p l e R s m args below meth c H locs cells slots Q g q := fun T hT X => kk T hT (stand_widen X h1 h2)
theorem vx_out {pc : Nat} {E : String} {ce : Cell} {q : Addr} {mc ms : Nat} (hout : ∀ x ∈ c.exceptionTable.toList, covers x pc = false) (hlocks : meth.locks = false) (hcell : H[q]? = some ce) (hv : ce.vm = .none) (hcl : s.vm.findClass E = some ce.cls)
    (hx : ∀ t : State, t.heap = H → s.vm.Alike t.vm → XC E s t) (hf : ∀ z ∈ locs, free z.base) (hc : cells ≤ mc) (hs : slots ≤ ms) :
    vx_W p l e R s m args below meth c H locs cells slots (vx_MQ below Qc XC args s mc ms free) (F0 m pc ls rest) q := by
  intro T hT X
  obtain ⟨st1, hrun, hend, hW, hsm⟩ := X.leaveThrown q (g := F0 m pc ls rest) rfl rfl rfl hout hlocks
  have hcell9 : (T.setFrames (.throwing q :: below)).heap[q]? = some ce := by
    show T.heap[q]? = some ce
    rw [hT]; exact hcell
  exact ⟨_, st1, .threw q, hrun, hend, Or.inr ⟨q, rfl, E, ce, locs, hx _ hT hW.alike, hcell9, hv, hcl, hW, hsm.mono hc hs, hf⟩⟩
theorem vx_frame {U : State} {k n : Nat} (h : s.sameButNew ({ U with vm := s.vm } : State) locs k n) : s.heap.size ≤ U.heap.size ∧ ∀ q : Nat, q < s.heap.size → (∀ z ∈ locs, z.base ≠ q) → U.heap[q]? = s.heap[q]? := by
  obtain ⟨-, h2, -, -, -, h6⟩ := h
  refine ⟨h2, fun q hq hz => ?_⟩
  obtain ⟨c9, e1, e2, e3, e4⟩ := h6 q _ (Array.getElem?_eq_getElem hq)
  have hs : c9.slots = (s.heap[q]).slots := Array.ext_getElem? fun i => e4 i fun hm => hz _ hm rfl
  have h9 : c9 = s.heap[q] := by
    rw [hs] at e2
    exact e2
  have e5 : U.heap[q]? = some c9 := e1
  rw [e5, h9, Array.getElem?_eq_getElem hq]
/-- the words of a throw but the four that speak of the heap -/
def vx_no (w : Cond) : Bool := decide (w ≠ .isRef (.static Bundle.tN "UNASSIGNED_STACK" Bundle.steD)) && decide (w ≠ .isRef (.static Bundle.tN "SUPPRESSED_SENTINEL" Bundle.listD)) && decide (w ≠ .laysStatic Bundle.tN "UNASSIGNED_STACK" Bundle.steD) && decide (w ≠ .laysStatic Bundle.tN "SUPPRESSED_SENTINEL" Bundle.listD)
def vx_at0 (own : String) (ic : Nat) (X : String) (names : List String) : List Cond := (Bundle.ownAtoms0 own ic X names).filter vx_no
def vx_atS (own : String) (ic : Nat) (X : String) (names : List String) : List Cond := (Bundle.ownAtoms own ic X names).filter vx_no
/-- a word that the tables alone decide, or a good one -/
def vx_ot (w : Cond) : Bool := w.onTables || goodWord w
theorem vx_ot_at {args a' : Array Value} {s U : State} {w : Cond} (hW : s.WarmedH U.vm) (hvm : s.vm = U.vm) (hg : vx_ot w = true) (h : w.before args s = true) : w.before a' U = true := by
  simp only [vx_ot, Bool.or_eq_true] at hg
  rcases hg with hg | hg
  · exact va_tabs hg hvm h
  · exact word_at hW (good_of_word hg) h
/-- a list's words: the good ones out of the method's own list, the others by premises of their own -/
theorem vx_hat {args : Array Value} {s : State} {L B : List Cond} (h1 : ∀ w ∈ L.filter goodWord, w.before args s = true) (h2 : ∀ w ∈ L.filter (fun w => !goodWord w), w ∈ B) (h3 : ∀ w ∈ B, w.before args s = true) : ∀ w ∈ L, w.before args s = true := by
  intro w hw
  by_cases g : goodWord w = true
  · exact h1 w (List.mem_filter.mpr ⟨hw, g⟩)
  · refine h3 w (h2 w (List.mem_filter.mpr ⟨hw, ?_⟩))
    show (!goodWord w) = true
    cases hgw : goodWord w
    · rfl
    · exact absurd hgw g
theorem vx_c {args : Array Value} {s : State} {w : Cond} {B : List Cond} (h : w.before args s = true) (t : ∀ w ∈ B, w.before args s = true) : ∀ w' ∈ w :: B, w'.before args s = true := fun w' h' => (List.mem_cons.mp h').elim (fun e => by rw [e]; exact h) (t w')
theorem vx_n {args : Array Value} {s : State} : ∀ w ∈ ([] : List Cond), w.before args s = true := fun _ h => nomatch h
theorem vx_own {args : Array Value} {s : State} {L : List Cond} (h1 : ∀ w ∈ L.filter vx_no, w.before args s = true)
    (hU : (Cond.isRef (.static Bundle.tN "UNASSIGNED_STACK" Bundle.steD)).before args s = true) (hN : (Cond.isRef (.static Bundle.tN "SUPPRESSED_SENTINEL" Bundle.listD)).before args s = true)
    (lU : (Cond.laysStatic Bundle.tN "UNASSIGNED_STACK" Bundle.steD).before args s = true) (lN : (Cond.laysStatic Bundle.tN "SUPPRESSED_SENTINEL" Bundle.listD).before args s = true) : ∀ w ∈ L, w.before args s = true := by
  intro w hw
  by_cases e1 : w = .isRef (.static Bundle.tN "UNASSIGNED_STACK" Bundle.steD)
  · rw [e1]; exact hU
  · by_cases e2 : w = .isRef (.static Bundle.tN "SUPPRESSED_SENTINEL" Bundle.listD)
    · rw [e2]; exact hN
    · by_cases e3 : w = .laysStatic Bundle.tN "UNASSIGNED_STACK" Bundle.steD
      · rw [e3]; exact lU
      · by_cases e4 : w = .laysStatic Bundle.tN "SUPPRESSED_SENTINEL" Bundle.listD
        · rw [e4]; exact lN
        · exact h1 w (List.mem_filter.mpr ⟨hw, by unfold vx_no; rw [decide_eq_true e1, decide_eq_true e2, decide_eq_true e3, decide_eq_true e4]; rfl⟩)
/-- where a static field lies, its class's statics cell in H -/
def vx_L (C n d : String) (A : Nat → Prop) (U : State) (H : Heap) : Prop := ∃ (c : ClassId) (k : Class) (i : Nat) (f : Field) (a : Nat) (cell : Cell), U.vm.findClass C = some c ∧ U.fieldFound? C n d = some (c, k, i, f) ∧ f.isStatic = true ∧ k.statics = some a ∧ H[a]? = some cell ∧ cell.vm.isStatics = true ∧ cell.cls = c ∧ f.slot < cell.slots.size ∧ k.staticTypes[f.slot]? = some f.type ∧ ¬ A a
theorem vx_L.moved {C n d : String} {A : Nat → Prop} {u U : State} {H : Heap} (hvm : u.vm.Alike U.vm) (h : vx_L C n d A u H) : vx_L C n d A U H := by
  obtain ⟨c, k, i, f, a, cell, h1, h2, h3, h4, h5, h6, h7, h8, h9, h10⟩ := h
  obtain ⟨k', hi', he⟩ := State.fieldFound?_setVm hvm h2
  exact ⟨c, k', i, f, a, cell, by rw [hvm.findClass]; exact h1, hi', h3, by rw [he]; exact h4, h5, h6, h7, h8, by rw [he]; exact h9, h10⟩
theorem vx_L.kept {C n d : String} {A : Nat → Prop} {U : State} {H H1 : Heap} (h : vx_L C n d A U H) (hq : ∀ a : Nat, a < H.size → ¬ A a → H1[a]? = H[a]?) : vx_L C n d A U H1 := by
  obtain ⟨c, k, i, f, a, cell, h1, h2, h3, h4, h5, h6, h7, h8, h9, h10⟩ := h
  exact ⟨c, k, i, f, a, cell, h1, h2, h3, h4, by rw [hq a (Array.getElem?_eq_some_iff.mp h5).1 h10]; exact h5, h6, h7, h8, h9, h10⟩
theorem vx_L.narrow {C n d : String} {A B : Nat → Prop} {U : State} {H : Heap} (h : vx_L C n d A U H) (hAB : ∀ q, B q → A q) : vx_L C n d B U H := by
  obtain ⟨c, k, i, f, a, cell, h1, h2, h3, h4, h5, h6, h7, h8, h9, h10⟩ := h
  exact ⟨c, k, i, f, a, cell, h1, h2, h3, h4, h5, h6, h7, h8, h9, fun z => h10 (hAB _ z)⟩
theorem vx_L.word {C n d : String} {A : Nat → Prop} {s : State} {args : Array Value} (h : vx_L C n d A s s.heap) : (Cond.laysStatic C n d).before args s = true := by
  obtain ⟨c, k, i, f, a, cell, h1, h2, h3, h4, h5, h6, h7, h8, h9, -⟩ := h
  show (Cond.laysStatic C n d).holds args s none s [] = true
  exact Cond.laysStatic_of h1 h2 h3 h4 h5 h6 h7 h8 h9
/-- .. and what it holds: null or some reference -/
def vx_Zq (C n d : String) (A : Nat → Prop) (U : State) (H : Heap) : Prop := va_Zq C n d A U H ∧ vx_L C n d A U H
theorem vx_Zq.moved {C n d : String} {A : Nat → Prop} {u U : State} {H : Heap} (hvm : u.vm.Alike U.vm) (h : vx_Zq C n d A u H) : vx_Zq C n d A U H := ⟨va_Zq.moved hvm h.1, vx_L.moved hvm h.2⟩
theorem vx_Zq.kept {C n d : String} {A : Nat → Prop} {U : State} {H H1 : Heap} (h : vx_Zq C n d A U H) (hq : ∀ a : Nat, a < H.size → ¬ A a → H1[a]? = H[a]?) : vx_Zq C n d A U H1 := ⟨va_Zq.kept h.1 hq, vx_L.kept h.2 hq⟩
theorem vx_Zq.narrow {C n d : String} {A B : Nat → Prop} {U : State} {H : Heap} (h : vx_Zq C n d A U H) (hAB : ∀ q, B q → A q) : vx_Zq C n d B U H := ⟨va_Zq.narrow h.1 hAB, vx_L.narrow h.2 hAB⟩
theorem vx_Zqof {args : Array Value} {s : State} {C n d : String} {A : Nat → Prop} (hl : (Cond.laysStatic C n d).before args s = true) (hini : (Cond.initialized C).before args s = true) (h : (Cond.isRef (.static C n d)).before args s = true) (hA : ∀ a : Nat, a < s.heap.size → ¬ A a) : vx_Zq C n d A s s.heap := by
  refine ⟨va_Zqof hl hini h hA, ?_⟩
  obtain ⟨c, k, i, f, a, cell, h1, h2, h3, h4, h5, h6, h7, h8, h9⟩ := Cond.laysStatic_spec hl
  exact ⟨c, k, i, f, a, cell, h1, h2, h3, h4, h5, h6, h7, h8, h9, hA a (Array.getElem?_eq_some_iff.mp h5).1⟩
theorem vx_isRef {C n d : String} {v : Value} {A : Nat → Prop} {s : State} {args : Array Value} (h : va_Z C n d v A s s.heap) (hv : v.isRef = true) : (Cond.isRef (.static C n d)).before args s = true := by
  obtain ⟨cf, kf, fi, f, a, cell, h1, h2, h3, h4, h5, h6, h7, -⟩ := h
  have he : (Term.static C n d).eval args s none [] s = some v := by
    simp [Term.eval, State.fieldNamed?, h1, h2, h4, h5, h6, h7]
  simp only [Cond.before, Cond.holds, Cond.value, he]
  cases v <;> simp_all [Value.isRef]
theorem vx_isRefq {C n d : String} {A : Nat → Prop} {s : State} {args : Array Value} (h : va_Zq C n d A s s.heap) : (Cond.isRef (.static C n d)).before args s = true := by
  rcases h with h | ⟨t, h⟩
  · exact vx_isRef h rfl
  · exact vx_isRef h rfl
/-- the same frame, seen from here: as if the method were called anew in this heap -/
theorem vx_rebase {T : State} (X : Stand p l e R s m args below meth c T locs cells slots) {R' : Room} (hf : R'.frames ≤ R.frames) (hl : R'.locals ≤ R.locals) (hc : cells + R'.cells ≤ R.cells) (hs : slots + R'.slots ≤ R.slots) :
    Stand p l e R' ((T.setVm s.vm).setFrames (.invoking m args :: below)) m args below meth c T [] 0 0 := by
  have htop : (T.setVm s.vm).topJava?.isSome := X.here.top
  have hF : ((T.setVm s.vm).setFrames (.invoking m args :: below)).frames = .invoking m args :: below := State.frames_setFrames _ (State.cur_lt_of_top htop)
  obtain ⟨g₀, hg0⟩ := Option.isSome_iff_exists.mp htop
  obtain ⟨r, hr⟩ := State.topJava?_eq_some.mp hg0
  have hl9 : e.platform.stackLimits (T.setVm s.vm).me = e.platform.stackLimits s.me := X.limits
  have hb9 : (T.setVm s.vm).me.stackBytes = s.me.stackBytes := X.bytes
  refine ⟨X.admits, X.cas, X.clock, hF, ?_, X.hears, X.method, X.code, X.here, X.tail, X.warmed, ?_, ?_, ?_⟩
  · have h := X.room
    have hU : ((T.setVm s.vm).setFrames (.invoking m args :: below)).localsInUse = s.localsInUse := by
      rw [State.localsInUse_invoking hF (meth := meth) (c := c) X.method X.code, State.localsInUse_invoking X.frames X.method X.code]
    simp only [State.hasRoom, Bool.and_eq_true, decide_eq_true_eq] at h ⊢
    obtain ⟨⟨⟨⟨h1, h2, h3, h4, h5, h6⟩, h7⟩, h8⟩, h9⟩ := h
    rw [X.frames, List.length_cons] at h2 h3
    have q1 := X.heapSize
    have q2 := X.used
    simp only [hF, hU, List.length_cons, State.stackLimits_setFrames, State.stackBytes_setFrames, hl9, hb9]
    refine ⟨⟨⟨⟨by omega, by omega, by omega, by omega, by omega, h6⟩, ?_⟩, ?_⟩, X.book⟩
    · show T.heap.size + R'.cells ≤ e.platform.maxCells
      omega
    · show T.slotsUsed + R'.slots ≤ e.platform.maxSlots
      omega
  · rw [State.stackLimits_setFrames]; rfl
  · rw [State.stackBytes_setFrames]; rfl
  · refine ⟨?_, Nat.le_refl _, Nat.le_refl _, ?_, ?_, fun a c9 h9 => ⟨c9, h9, rfl, rfl, fun _ _ => rfl⟩⟩
    · obtain ⟨t, ht, -⟩ := State.frames_cons hr
      show T.setVm s.vm = { ((T.setVm s.vm).setFrames (.invoking m args :: below)).setFrames (T.setVm s.vm).frames with heap := T.heap, slotsUsed := T.slotsUsed }
      rw [State.setFrames_setFrames, State.setFrames_self ht]
      rfl
    · show T.slotsUsed = T.slotsUsed + ((T.heap.toList.drop T.heap.size).map (·.slots.size)).sum
      rw [List.drop_eq_nil_of_le (Nat.le_of_eq Array.length_toList)]
      rfl
    · show ((T.heap.toList.drop T.heap.size).map (·.slots.size)).sum ≤ 0
      rw [List.drop_eq_nil_of_le (Nat.le_of_eq Array.length_toList)]
      exact Nat.le_refl _
/-- 'throw new E()': new; dup; invokespecial; athrow -/
theorem vx_throw0 {cc : ByteArray} {pc : Nat} (hexec : p.tables.exec = Jvm.exec) (hb : c.code = cc) (hl : l.stackTraces = false) {own cls : String} {names : List String} {ik ic mc ms : Nat} {A : Nat → Prop}
    (hown : s.vm.findClass own = some m.cls) (hcls : Bundle.fit cls = true) (hnames : ∀ n ∈ names, Bundle.fit n = true)
    (hk : (Cond.classLink own ik cls).before args s = true) (hini : (Cond.initialized cls).before args s = true) (hat : ∀ w ∈ vx_at0 own ic cls names, w.before args s = true)
    (hgood : ∀ w ∈ Cond.classLink own ik cls :: Cond.initialized cls :: vx_at0 own ic cls names, vx_ot w = true)
    (hU : vx_Zq Bundle.tN "UNASSIGNED_STACK" Bundle.steD A s s.heap) (hN : vx_Zq Bundle.tN "SUPPRESSED_SENTINEL" Bundle.listD A s s.heap) (hS : va_S A s.heap H locs) (hsize : ls.size = c.maxLocals)
    (d0 : decode cc pc = .ok (.new ik, 3)) (d3 : decode cc (pc + 3) = .ok (.dup, 1)) (d4 : decode cc (pc + 4) = .ok (.invokespecial ic, 3)) (d7 : decode cc (pc + 7) = .ok (.athrow, 1))
    (hout : ∀ x ∈ c.exceptionTable.toList, covers x (pc + 7) = false)
    (hRframes : names.length + 3 < R.frames) (hRlocals : (rest.map fun v => v.category).sum + (13 * (names.length + 1) + 42) ≤ R.locals) (hRcells : cells + 1 ≤ R.cells) (hRslots : slots + 6 ≤ R.slots) (hlocks : meth.locks = false)
    (hx : ∀ t : State, s.vm.Alike t.vm → H.size ≤ t.heap.size → (∀ q : Nat, q < H.size → t.heap[q]? = H[q]?) → XC cls s t)
    (hf : ∀ z ∈ locs, free z.base) (hc : cells + 1 ≤ mc) (hs : slots + 6 ≤ ms) :
    W p l e R s m args below meth c H locs cells slots (vx_MQ below Qc XC args s mc ms free) (F0 m pc ls rest) := by
  intro T hT X
  have htr : e.platform.stackTraces = false := (show e.platform.stackTraces = l.stackTraces by rw [X.admits.platform]).trans hl
  have Y := vx_rebase X (R' := { frames := R.frames, locals := R.locals, cells := 1, slots := 6 }) (Nat.le_refl _) (Nat.le_refl _) hRcells hRslots
  obtain ⟨s', hA⟩ : ∃ z, z = (T.setVm s.vm).setFrames (.invoking m args :: below) := ⟨_, rfl⟩
  rw [← hA] at Y
  have hvm : s'.vm = s.vm := by rw [hA]; rfl
  have hhp : s'.heap = H := by rw [hA]; exact hT
  have hW0 : s.WarmedH s'.vm := by rw [hvm]; exact State.WarmedH.refl s
  have hat' : ∀ w ∈ vx_at0 own ic cls names, w.before args s' = true := fun w hw => vx_ot_at hW0 hvm.symm (hgood w (List.mem_cons_of_mem _ (List.mem_cons_of_mem _ hw))) (hat w hw)
  have hk' : (Cond.classLink own ik cls).before args s' = true := vx_ot_at hW0 hvm.symm (hgood _ List.mem_cons_self) hk
  have hini' : (Cond.initialized cls).before args s' = true := vx_ot_at hW0 hvm.symm (hgood _ (List.mem_cons_of_mem _ List.mem_cons_self)) hini
  have hU' : vx_Zq Bundle.tN "UNASSIGNED_STACK" Bundle.steD A s' s'.heap := by rw [hhp]; exact vx_Zq.moved hW0.alike (hU.kept hS.2.1)
  have hN' : vx_Zq Bundle.tN "SUPPRESSED_SENTINEL" Bundle.listD A s' s'.heap := by rw [hhp]; exact vx_Zq.moved hW0.alike (hN.kept hS.2.1)
  have h : ∀ w ∈ Bundle.ownAtoms0 own ic cls names, w.before args s' = true := vx_own hat' (vx_isRefq hU'.1) (vx_isRefq hN'.1) hU'.2.word hN'.2.word
  have hown' : s'.vm.findClass own = some m.cls := by rw [hvm]; exact hown
  have hins : (Cond.instantiable cls 6).before args s' = true := h _ (by simp [Bundle.ownAtoms0])
  obtain ⟨vm₁, cX, kX, hfX, hkX, -, -, X₁, st1⟩ := Y.newCold hexec (own := own) (C := cls) (index := ik) (n := 6) hown' hk' hins hini'
    (g := F0 m pc ls rest) rfl (by rw [hb]; exact d0) (Nat.le_refl _) (Nat.le_refl _)
  generalize hT1 : (T.setVm vm₁).pushCell { cls := cX, slots := kX.instanceTypes.map defaultValue, vm := .none } = T1 at X₁ st1
  have hcat : (Value.ref T.heap.size).category = 1 := rfl
  have hcellA : T1.heap[T.heap.size]? = some (freshCell cX kX) := by rw [← hT1]; exact State.heap_pushCell_size _ _
  have d3' : decode c.code (pc + 3) = .ok (.dup, 1) := by rw [hb]; exact d3
  obtain ⟨U, hsteps, hrun, hend, hW, hsame, ce, hce, hO⟩ := X₁.ctorThrow0 hexec htr (own := own) (cls := cls) (names := names) (ic := ic) hown' hcls hnames h (fun x hx => nomatch hx) hfX hkX hcellA (by rw [hhp, hT]; exact Nat.le_refl _)
    (g := { method := m, pc := pc + 4, locals := ls, stack := .ref T.heap.size :: .ref T.heap.size :: rest, locked := none }) rfl hsize rfl rfl (rest := rest) rfl
    (by rw [hb]; exact d4) (by rw [hb]; exact d7) hout hRframes (by simp only [List.map_cons, List.sum_cons, hcat]; omega) hlocks
  obtain ⟨f1, f2⟩ := vx_frame hsame
  rw [hhp] at f1 f2
  have hWs : s.WarmedH U.vm := State.WarmedH.trans hW0 hW
  have hcl : s.vm.findClass cls = some ce.cls := by
    have h9 := hO.cls
    rw [hvm] at h9
    exact h9
  have hall : s.sameButNew ({ U with vm := s.vm } : State) locs mc ms := by
    subst hA
    obtain ⟨e1, e2⟩ := hsame
    rw [State.setFrames_setFrames] at e1
    have h2 : (T.setVm s.vm).sameButNew ({ U with vm := s.vm } : State) [] (0 + 1) (0 + 6) := ⟨e1, e2⟩
    have h3 := X.same.trans h2
    rw [List.append_nil] at h3
    exact h3.mono hc hs
  refine ⟨U, ?_, .threw T.heap.size, hrun, hend, Or.inr ⟨T.heap.size, rfl, cls, ce, locs, hx U hWs.alike f1 (fun q hq => f2 q hq (fun z hz => nomatch hz)), hce, hO.vm, hcl, hWs, hall, hf⟩⟩
  refine st1 _ ?_
  show Steps p.tables e below (T1.setTop { method := m, pc := pc + 3, locals := ls, stack := .ref T.heap.size :: rest, locked := none }) _
  jvm_step X₁.here [X₁.here.top, hexec, d3', Value.category]
  exact hsteps
/-- 'throw new E("text")': new; dup; ldc; invokespecial; athrow -/
theorem vx_throwS {cc : ByteArray} {pc : Nat} (hexec : p.tables.exec = Jvm.exec) (hb : c.code = cc) (hl : l.stackTraces = false) {own cls text : String} {names : List String} {ik is ic mc ms sa : Nat} {A : Nat → Prop}
    (hown : s.vm.findClass own = some m.cls) (hcls : Bundle.fit cls = true) (hnames : ∀ n ∈ names, Bundle.fit n = true)
    (hk : (Cond.classLink own ik cls).before args s = true) (hini : (Cond.initialized cls).before args s = true) (hstr : vk_R own is text sa s) (hat : ∀ w ∈ vx_atS own ic cls names, w.before args s = true)
    (hgood : ∀ w ∈ Cond.classLink own ik cls :: Cond.initialized cls :: vx_atS own ic cls names, vx_ot w = true)
    (hU : vx_Zq Bundle.tN "UNASSIGNED_STACK" Bundle.steD A s s.heap) (hN : vx_Zq Bundle.tN "SUPPRESSED_SENTINEL" Bundle.listD A s s.heap) (hS : va_S A s.heap H locs) (hsize : ls.size = c.maxLocals)
    (d0 : decode cc pc = .ok (.new ik, 3)) (d3 : decode cc (pc + 3) = .ok (.dup, 1)) (d4 : decode cc (pc + 4) = .ok (.ldc is, 2)) (d6 : decode cc (pc + 6) = .ok (.invokespecial ic, 3)) (d9 : decode cc (pc + 9) = .ok (.athrow, 1))
    (hout : ∀ x ∈ c.exceptionTable.toList, covers x (pc + 9) = false)
    (hRframes : names.length + 3 < R.frames) (hRlocals : (rest.map fun v => v.category).sum + (13 * (names.length + 1) + 43) ≤ R.locals) (hRcells : cells + 1 ≤ R.cells) (hRslots : slots + 6 ≤ R.slots) (hlocks : meth.locks = false)
    (hx : ∀ t : State, s.vm.Alike t.vm → H.size ≤ t.heap.size → (∀ q : Nat, q < H.size → t.heap[q]? = H[q]?) → XC cls s t)
    (hf : ∀ z ∈ locs, free z.base) (hc : cells + 1 ≤ mc) (hs : slots + 6 ≤ ms) :
    W p l e R s m args below meth c H locs cells slots (vx_MQ below Qc XC args s mc ms free) (F0 m pc ls rest) := by
  intro T hT X
  have htr : e.platform.stackTraces = false := (show e.platform.stackTraces = l.stackTraces by rw [X.admits.platform]).trans hl
  have Y := vx_rebase X (R' := { frames := R.frames, locals := R.locals, cells := 1, slots := 6 }) (Nat.le_refl _) (Nat.le_refl _) hRcells hRslots
  obtain ⟨s', hA⟩ : ∃ z, z = (T.setVm s.vm).setFrames (.invoking m args :: below) := ⟨_, rfl⟩
  rw [← hA] at Y
  have hvm : s'.vm = s.vm := by rw [hA]; rfl
  have hhp : s'.heap = H := by rw [hA]; exact hT
  have hW0 : s.WarmedH s'.vm := by rw [hvm]; exact State.WarmedH.refl s
  have hat' : ∀ w ∈ vx_atS own ic cls names, w.before args s' = true := fun w hw => vx_ot_at hW0 hvm.symm (hgood w (List.mem_cons_of_mem _ (List.mem_cons_of_mem _ hw))) (hat w hw)
  have hk' : (Cond.classLink own ik cls).before args s' = true := vx_ot_at hW0 hvm.symm (hgood _ List.mem_cons_self) hk
  have hini' : (Cond.initialized cls).before args s' = true := vx_ot_at hW0 hvm.symm (hgood _ (List.mem_cons_of_mem _ List.mem_cons_self)) hini
  have hU' : vx_Zq Bundle.tN "UNASSIGNED_STACK" Bundle.steD A s' s'.heap := by rw [hhp]; exact vx_Zq.moved hW0.alike (hU.kept hS.2.1)
  have hN' : vx_Zq Bundle.tN "SUPPRESSED_SENTINEL" Bundle.listD A s' s'.heap := by rw [hhp]; exact vx_Zq.moved hW0.alike (hN.kept hS.2.1)
  have h : ∀ w ∈ Bundle.ownAtoms own ic cls names, w.before args s' = true := vx_own hat' (vx_isRefq hU'.1) (vx_isRefq hN'.1) hU'.2.word hN'.2.word
  have hown' : s'.vm.findClass own = some m.cls := by rw [hvm]; exact hown
  have hins : (Cond.instantiable cls 6).before args s' = true := h _ (by simp [Bundle.ownAtoms])
  obtain ⟨vm₁, cX, kX, hfX, hkX, -, -, X₁, st1⟩ := Y.newCold hexec (own := own) (C := cls) (index := ik) (n := 6) hown' hk' hins hini'
    (g := F0 m pc ls rest) rfl (by rw [hb]; exact d0) (Nat.le_refl _) (Nat.le_refl _)
  generalize hT1 : (T.setVm vm₁).pushCell { cls := cX, slots := kX.instanceTypes.map defaultValue, vm := .none } = T1 at X₁ st1
  have hcat : (Value.ref T.heap.size).category = 1 := rfl
  have hcellA : T1.heap[T.heap.size]? = some (freshCell cX kX) := by rw [← hT1]; exact State.heap_pushCell_size _ _
  have d3' : decode c.code (pc + 3) = .ok (.dup, 1) := by rw [hb]; exact d3
  have d4' : decode c.code (pc + 4) = .ok (.ldc is, 2) := by rw [hb]; exact d4
  have hstr' : vk_R own is text sa s' := vk_R.warm hW0 hstr
  obtain ⟨U, hsteps, hrun, hend, hW, hsame, ce, hce, hO⟩ := X₁.ctorThrowS hexec htr (own := own) (cls := cls) (names := names) (ic := ic) hown' hcls hnames h (fun x hx => nomatch hx) hfX hkX hcellA (by rw [hhp, hT]; exact Nat.le_refl _) (msg := .ref sa) rfl
    (g := { method := m, pc := pc + 6, locals := ls, stack := .ref sa :: .ref T.heap.size :: .ref T.heap.size :: rest, locked := none }) rfl hsize rfl rfl (rest := rest) rfl
    (by rw [hb]; exact d6) (by rw [hb]; exact d9) hout hRframes (by simp only [List.map_cons, List.sum_cons, hcat]; omega) hlocks
  obtain ⟨f1, f2⟩ := vx_frame hsame
  rw [hhp] at f1 f2
  have hWs : s.WarmedH U.vm := State.WarmedH.trans hW0 hW
  have hcl : s.vm.findClass cls = some ce.cls := by
    have h9 := hO.cls
    rw [hvm] at h9
    exact h9
  have hall : s.sameButNew ({ U with vm := s.vm } : State) locs mc ms := by
    subst hA
    obtain ⟨e1, e2⟩ := hsame
    rw [State.setFrames_setFrames] at e1
    have h2 : (T.setVm s.vm).sameButNew ({ U with vm := s.vm } : State) [] (0 + 1) (0 + 6) := ⟨e1, e2⟩
    have h3 := X.same.trans h2
    rw [List.append_nil] at h3
    exact h3.mono hc hs
  refine ⟨U, ?_, .threw T.heap.size, hrun, hend, Or.inr ⟨T.heap.size, rfl, cls, ce, locs, hx U hWs.alike f1 (fun q hq => f2 q hq (fun z hz => nomatch hz)), hce, hO.vm, hcl, hWs, hall, hf⟩⟩
  refine st1 _ ?_
  show Steps p.tables e below (T1.setTop { method := m, pc := pc + 3, locals := ls, stack := .ref T.heap.size :: rest, locked := none }) _
  jvm_step X₁.here [X₁.here.top, hexec, d3', Value.category]
  exact X₁.ldcString hexec (own := own) (text := text) (index := is) (a := sa) hown' hstr'.1 hstr'.2
    (g := { method := m, pc := pc + 4, locals := ls, stack := .ref T.heap.size :: .ref T.heap.size :: rest, locked := none }) rfl d4' _ hsteps
/-- 'throw new E("text")', the text by a wide index -/
theorem vx_throwSW {cc : ByteArray} {pc : Nat} (hexec : p.tables.exec = Jvm.exec) (hb : c.code = cc) (hl : l.stackTraces = false) {own cls text : String} {names : List String} {ik is ic mc ms sa : Nat} {A : Nat → Prop}
    (hown : s.vm.findClass own = some m.cls) (hcls : Bundle.fit cls = true) (hnames : ∀ n ∈ names, Bundle.fit n = true)
    (hk : (Cond.classLink own ik cls).before args s = true) (hini : (Cond.initialized cls).before args s = true) (hstr : vk_R own is text sa s) (hat : ∀ w ∈ vx_atS own ic cls names, w.before args s = true)
    (hgood : ∀ w ∈ Cond.classLink own ik cls :: Cond.initialized cls :: vx_atS own ic cls names, vx_ot w = true)
    (hU : vx_Zq Bundle.tN "UNASSIGNED_STACK" Bundle.steD A s s.heap) (hN : vx_Zq Bundle.tN "SUPPRESSED_SENTINEL" Bundle.listD A s s.heap) (hS : va_S A s.heap H locs) (hsize : ls.size = c.maxLocals)
    (d0 : decode cc pc = .ok (.new ik, 3)) (d3 : decode cc (pc + 3) = .ok (.dup, 1)) (d4 : decode cc (pc + 4) = .ok (.ldc_w is, 3)) (d7 : decode cc (pc + 7) = .ok (.invokespecial ic, 3)) (d10 : decode cc (pc + 10) = .ok (.athrow, 1))
    (hout : ∀ x ∈ c.exceptionTable.toList, covers x (pc + 10) = false)
    (hRframes : names.length + 3 < R.frames) (hRlocals : (rest.map fun v => v.category).sum + (13 * (names.length + 1) + 43) ≤ R.locals) (hRcells : cells + 1 ≤ R.cells) (hRslots : slots + 6 ≤ R.slots) (hlocks : meth.locks = false)
    (hx : ∀ t : State, s.vm.Alike t.vm → H.size ≤ t.heap.size → (∀ q : Nat, q < H.size → t.heap[q]? = H[q]?) → XC cls s t)
    (hf : ∀ z ∈ locs, free z.base) (hc : cells + 1 ≤ mc) (hs : slots + 6 ≤ ms) :
    W p l e R s m args below meth c H locs cells slots (vx_MQ below Qc XC args s mc ms free) (F0 m pc ls rest) := by
  intro T hT X
  have htr : e.platform.stackTraces = false := (show e.platform.stackTraces = l.stackTraces by rw [X.admits.platform]).trans hl
  have Y := vx_rebase X (R' := { frames := R.frames, locals := R.locals, cells := 1, slots := 6 }) (Nat.le_refl _) (Nat.le_refl _) hRcells hRslots
  obtain ⟨s', hA⟩ : ∃ z, z = (T.setVm s.vm).setFrames (.invoking m args :: below) := ⟨_, rfl⟩
  rw [← hA] at Y
  have hvm : s'.vm = s.vm := by rw [hA]; rfl
  have hhp : s'.heap = H := by rw [hA]; exact hT
  have hW0 : s.WarmedH s'.vm := by rw [hvm]; exact State.WarmedH.refl s
  have hat' : ∀ w ∈ vx_atS own ic cls names, w.before args s' = true := fun w hw => vx_ot_at hW0 hvm.symm (hgood w (List.mem_cons_of_mem _ (List.mem_cons_of_mem _ hw))) (hat w hw)
  have hk' : (Cond.classLink own ik cls).before args s' = true := vx_ot_at hW0 hvm.symm (hgood _ List.mem_cons_self) hk
  have hini' : (Cond.initialized cls).before args s' = true := vx_ot_at hW0 hvm.symm (hgood _ (List.mem_cons_of_mem _ List.mem_cons_self)) hini
  have hU' : vx_Zq Bundle.tN "UNASSIGNED_STACK" Bundle.steD A s' s'.heap := by rw [hhp]; exact vx_Zq.moved hW0.alike (hU.kept hS.2.1)
  have hN' : vx_Zq Bundle.tN "SUPPRESSED_SENTINEL" Bundle.listD A s' s'.heap := by rw [hhp]; exact vx_Zq.moved hW0.alike (hN.kept hS.2.1)
  have h : ∀ w ∈ Bundle.ownAtoms own ic cls names, w.before args s' = true := vx_own hat' (vx_isRefq hU'.1) (vx_isRefq hN'.1) hU'.2.word hN'.2.word
  have hown' : s'.vm.findClass own = some m.cls := by rw [hvm]; exact hown
  have hins : (Cond.instantiable cls 6).before args s' = true := h _ (by simp [Bundle.ownAtoms])
  obtain ⟨vm₁, cX, kX, hfX, hkX, -, -, X₁, st1⟩ := Y.newCold hexec (own := own) (C := cls) (index := ik) (n := 6) hown' hk' hins hini'
    (g := F0 m pc ls rest) rfl (by rw [hb]; exact d0) (Nat.le_refl _) (Nat.le_refl _)
  generalize hT1 : (T.setVm vm₁).pushCell { cls := cX, slots := kX.instanceTypes.map defaultValue, vm := .none } = T1 at X₁ st1
  have hcat : (Value.ref T.heap.size).category = 1 := rfl
  have hcellA : T1.heap[T.heap.size]? = some (freshCell cX kX) := by rw [← hT1]; exact State.heap_pushCell_size _ _
  have d3' : decode c.code (pc + 3) = .ok (.dup, 1) := by rw [hb]; exact d3
  have d4' : decode c.code (pc + 4) = .ok (.ldc_w is, 3) := by rw [hb]; exact d4
  have hstr' : vk_R own is text sa s' := vk_R.warm hW0 hstr
  obtain ⟨U, hsteps, hrun, hend, hW, hsame, ce, hce, hO⟩ := X₁.ctorThrowS hexec htr (own := own) (cls := cls) (names := names) (ic := ic) hown' hcls hnames h (fun x hx => nomatch hx) hfX hkX hcellA (by rw [hhp, hT]; exact Nat.le_refl _) (msg := .ref sa) rfl
    (g := { method := m, pc := pc + 7, locals := ls, stack := .ref sa :: .ref T.heap.size :: .ref T.heap.size :: rest, locked := none }) rfl hsize rfl rfl (rest := rest) rfl
    (by rw [hb]; exact d7) (by rw [hb]; exact d10) hout hRframes (by simp only [List.map_cons, List.sum_cons, hcat]; omega) hlocks
  obtain ⟨f1, f2⟩ := vx_frame hsame
  rw [hhp] at f1 f2
  have hWs : s.WarmedH U.vm := State.WarmedH.trans hW0 hW
  have hcl : s.vm.findClass cls = some ce.cls := by
    have h9 := hO.cls
    rw [hvm] at h9
    exact h9
  have hall : s.sameButNew ({ U with vm := s.vm } : State) locs mc ms := by
    subst hA
    obtain ⟨e1, e2⟩ := hsame
    rw [State.setFrames_setFrames] at e1
    have h2 : (T.setVm s.vm).sameButNew ({ U with vm := s.vm } : State) [] (0 + 1) (0 + 6) := ⟨e1, e2⟩
    have h3 := X.same.trans h2
    rw [List.append_nil] at h3
    exact h3.mono hc hs
  refine ⟨U, ?_, .threw T.heap.size, hrun, hend, Or.inr ⟨T.heap.size, rfl, cls, ce, locs, hx U hWs.alike f1 (fun q hq => f2 q hq (fun z hz => nomatch hz)), hce, hO.vm, hcl, hWs, hall, hf⟩⟩
  refine st1 _ ?_
  show Steps p.tables e below (T1.setTop { method := m, pc := pc + 3, locals := ls, stack := .ref T.heap.size :: rest, locked := none }) _
  jvm_step X₁.here [X₁.here.top, hexec, d3', Value.category]
  exact X₁.ldcStringW hexec (own := own) (text := text) (index := is) (a := sa) hown' hstr'.1 hstr'.2
    (g := { method := m, pc := pc + 4, locals := ls, stack := .ref T.heap.size :: .ref T.heap.size :: rest, locked := none }) rfl d4' _ hsteps
end Ends
section Bodies
variable {l : Launch}
theorem vx_ofW {y : MethodName} {ws ws' : List Cond} {rm : Room} {Pc : Array Value → State → Prop} {Qc : Array Value → State → Outcome → State → Prop} {XC : String → State → State → Prop} {mc ms : Nat} {free : Addr → Prop} {cc : ByteArray} {maxL : Nat} {ret : Option FieldType}
    (hy : plainName y.cls = true) (hw : ws = Cond.code y cc maxL ret :: ws')
    (body : ∀ p e s m args below meth c s₁, BodyLoose p l y (headSpec ws rm) cc maxL ret e s m args below meth c s₁ → c.maxLocals = maxL → (∀ x ∈ c.exceptionTable.toList, False) → Pc args s →
      W p l e (headSpec ws rm).room s m args below meth c s.heap [] 0 0 (vx_MQ below Qc XC args s mc ms free) (entryFrame m args maxL)) : vx_Met l y ws rm Pc Qc XC mc ms free := by
  refine MetFree.of_bodyS (code := cc) (maxLocals := maxL) (ret := ret) hy ?_ ?_
  · intro args s m h hn
    obtain ⟨meth, c, h1, h2, h3, h4, h5, h6, -, -⟩ := Cond.code_spec hn (atoms_spec (ws := ws) h _ (by rw [hw]; exact List.mem_cons_self))
    exact ⟨meth, c, h1, h2, h3, h4, h5, h6⟩
  · intro p e s m args below meth c s₁ B hml hP _
    have hh0 : s₁.heap = s.heap := by rw [B.state]; rfl
    have ht : ∀ x ∈ c.exceptionTable.toList, False := by
      obtain ⟨meth9, c9, h1, h2, -, -, -, -, h7, -⟩ := Cond.code_spec B.named (atoms_spec (ws := ws) B.pre _ (by rw [hw]; exact List.mem_cons_self))
      cases Option.some.inj (h1.symm.trans B.method)
      cases Option.some.inj (h2.symm.trans (Stand.of_body B).code)
      intro x hx
      rw [Array.isEmpty_iff.mp h7] at hx
      cases hx
    obtain ⟨t, a1, o, b1, b2, b3⟩ := body p e s m args below meth c s₁ B hml ht hP s₁ hh0 (Stand.of_body B)
    exact ⟨t, o, a1, b1, b2, b3⟩
/-- the table of a body with handlers -/
theorem vx_table {p : Program} {x y : MethodName} {S : Spec} {cc bytes : ByteArray} {maxL maxL' : Nat} {ret ret' : Option FieldType} {e : Env} {s s₁ : State} {m : MethodId} {args : Array Value} {below : List Frame} {meth : Method} {c : Code} {hh : List (Nat × Nat × Nat × Nat)}
    (B : BodyLoose p l y S cc maxL ret e s m args below meth c s₁) (h : (Cond.codeWith y bytes maxL' ret' hh).before args s = true) : c.exceptionTable.toList = tableOf hh := by
  obtain ⟨m9, meth9, c9, hn9, h1, h2, -, -, h6, -⟩ := Cond.codeWith_spec h
  cases Option.some.inj (hn9.symm.trans B.named)
  cases Option.some.inj (h1.symm.trans B.method)
  cases Option.some.inj (h2.symm.trans (Stand.of_body B).code)
  rw [← h6, table_eq]
end Bodies
end VXA
/-! ===== END ===== -/
/-! ===== BEGIN a static call of a method with an exception table ===== -/
section VXS
variable {p : Program} {l : Launch} {e : Env} {R : Room} {s : State} {m : MethodId} {args : Array Value} {below : List Frame} {meth : Method} {c : Code} {T : State} {H : Heap} {locs : List Loc} {cells slots : Nat}
abbrev vx_CSW (R : Room) (s : State) (args : Array Value) (own : String) (index : Nat) (y : MethodName) (bytes : ByteArray) (maxL : Nat) (ret : Option FieldType) (hh : List (Nat × Nat × Nat × Nat)) (ws : List Cond) (rm : Room) (mc ms n : Nat) : Prop :=
  (rm.cells = mc ∧ rm.slots = ms ∧ rm.frames + 1 ≤ R.frames ∧ 8 + (maxL + 11) + rm.locals ≤ R.locals ∧ (∀ w ∈ ws, ∀ (a' : Array Value) (U : State), s.WarmedH U.vm → w.before a' U = true) ∧ Cond.codeWith y bytes maxL ret hh ∈ ws) ∧
  (Cond.codeWith y bytes maxL ret hh).before args s = true ∧ (Cond.initialized y.cls).before args s = true ∧ (y.cls ≠ "java/lang/invoke/MethodHandle" ∧ y.cls ≠ "java/lang/invoke/VarHandle") ∧
  (∀ sig, parseMethodDescriptor y.desc = some sig → n = sig.parameters.length) ∧ (Cond.methodLink own index y).before args s = true ∧ (Cond.static y).before args s = true
theorem vx_cwSW {own : String} {index maxL mc ms : Nat} {y : MethodName} {bytes : ByteArray} {ret : Option FieldType} {hh : List (Nat × Nat × Nat × Nat)} {Ts ws ws' : List Cond} {rm : Room} (n : Nat) (ht : ∀ w ∈ Ts, w.before args s = true) (hT : GoodIn Ts (va_wsS own index y ws)) (hw : ws = Cond.codeWith y bytes maxL ret hh :: ws') (hrc : rm.cells = mc) (hrs : rm.slots = ms)
    (hd : y.cls ≠ "java/lang/invoke/MethodHandle" ∧ y.cls ≠ "java/lang/invoke/VarHandle" ∧ (parseMethodDescriptor y.desc).map (fun d => d.parameters.length) = some n) (hR : rm.frames + 1 ≤ R.frames ∧ 8 + (maxL + 11) + rm.locals ≤ R.locals) :
    vx_CSW R s args own index y bytes maxL ret hh ws rm mc ms n := by
  have ok : ∀ w ∈ va_wsS own index y ws, w.before args s = true := fun w h => ht w (hT w h).1
  have hG : GoodIn Ts ws := fun w h => hT w (by unfold va_wsS; exact List.mem_append_right _ h)
  have hc : Cond.codeWith y bytes maxL ret hh ∈ ws := by rw [hw]; exact List.mem_cons_self
  refine ⟨⟨hrc, hrs, hR.1, hR.2, pay_in ht hG, hc⟩, ht _ (hG _ hc).1, ok _ (by simp [va_wsS]), ⟨hd.1, hd.2.1⟩, fun sig h => ?_, ok _ (by simp [va_wsS]), ok _ (by simp [va_wsS])⟩
  have h2 := hd.2.2
  rw [h] at h2
  exact (Option.some.inj h2).symm
theorem vx_callSW (X : Stand p l e R s m args below meth c T locs cells slots) (hexec : p.tables.exec = Jvm.exec) {own : String} {index : Nat} {y : MethodName} {bytes : ByteArray} {maxL : Nat} {ret : Option FieldType} {hh : List (Nat × Nat × Nat × Nat)}
    (hown : s.vm.findClass own = some m.cls) (hlink : (Cond.methodLink own index y).before args s = true) (hstat : (Cond.static y).before args s = true) (hinit : (Cond.initialized y.cls).before args s = true)
    (hcode : (Cond.codeWith y bytes maxL ret hh).before args s = true) (hy : y.cls ≠ "java/lang/invoke/MethodHandle" ∧ y.cls ≠ "java/lang/invoke/VarHandle")
    {W9 : Nat} {Pre : Pt → Array Value → Prop} {Post : Pt → Array Value → Option Value → Pt → Prop} (hK : Back l R p e below s args y 3 W9 Pre Post)
    {g : JFrame} (hg : g.method = m) (hsize : g.locals.size = c.maxLocals) {argsL rest : List Value} (hlen : ∀ sig, parseMethodDescriptor y.desc = some sig → argsL.length = sig.parameters.length)
    (hstack : g.stack = argsL.reverse ++ rest) (hW : 2 * g.monitorRoom + (rest.map fun v => v.category).sum ≤ W9) (hdg : decode c.code g.pc = .ok (.invokestatic index, 3))
    (hpre : ∀ vm₁, s.WarmedH vm₁ → Pre ⟨T.setVm vm₁, locs, cells, slots⟩ argsL.toArray) :
    ∃ (v : Option Value) (vm₁ : Vm) (B : Pt), s.WarmedH vm₁ ∧ Stand p l e R s m args below meth c B.U B.locs B.cells B.slots ∧ Post ⟨T.setVm vm₁, locs, cells, slots⟩ argsL.toArray v B ∧
      ∀ target, Steps p.tables e below (B.U.setTop { g with pc := g.pc + 3, stack := v.toList ++ rest }) target → Steps p.tables e below (T.setTop g) target := by
  obtain ⟨mk, methM, cM, hnamed, hmethM, -, -, -, -, -, -, hsigM⟩ := Cond.codeWith_spec hcode
  have hstatic : methM.isStatic = true := Cond.static_spec hnamed hmethM hstat
  obtain ⟨kP, hkP, -⟩ := className_of_methodNamed hnamed
  have hinitP : kP.init = .initialized := Cond.initialized_spec (findClass_of_methodNamed hnamed) hkP hinit
  obtain ⟨vm₁, X₁, hstep₁⟩ := X.invokestatic hexec hown hlink hnamed hmethM hstatic hkP hinitP hy (g := g) hg (argsL := argsL) (rest := rest) (hlen _ hsigM) hstack hdg
  obtain ⟨v, B, X', hpost, hsteps⟩ := hK m meth c ⟨T.setVm vm₁, locs, cells, slots⟩ { g with stack := rest } (.invokestatic index) mk argsL.toArray X₁ hg hsize hdg hW (X₁.named hnamed) (hpre vm₁ X₁.warmed)
  exact ⟨v, vm₁, B, X₁.warmed, X', hpost, fun target h => hstep₁ _ fun acts => by rw [doInvoke_state]; exact hsteps.trans h⟩
theorem vx_runSW {y : MethodName} {bytes cc : ByteArray} {maxL nL mc ms n index : Nat} {ret : Option FieldType} {hh : List (Nat × Nat × Nat × Nat)} {ws : List Cond} {rm : Room} {Pc : Array Value → State → Prop} {Qc : Array Value → State → Outcome → State → Prop} {free : Addr → Prop} {Ts : List Cond} {own : String} {As rest : List Value} {g : JFrame}
    (S : CallFix p m c cc nL s args Ts own) (hM : Met l y ws rm Pc Qc mc ms free) (cw : vx_CSW R s args own index y bytes maxL ret hh ws rm mc ms n) (hp : PreS s H Pc As)
    (hg : g.method = m) (hn : As.length = n) (hsize : g.locals.size = nL) (hstack : g.stack = As.reverse ++ rest) (hW : 2 * g.monitorRoom + (rest.map fun v => v.category).sum ≤ 8) (hdg : decode cc g.pc = .ok (.invokestatic index, 3)) (hf : cells + mc ≤ R.cells ∧ slots + ms ≤ R.slots) :
    va_Run p l e R s m args below meth c H locs cells slots mc ms g rest (Qc As.toArray) (free) := by
  obtain ⟨⟨hrc, hrs, hfr, hlo, hws, hcw⟩, hcode, hini, hy, hlen, hl, hstt⟩ := cw
  have hK : Back l R p e below s args y 3 8 (PreOf R mc ms Pc) (PostOf Qc mc ms free) := va_backW (hh := hh) (bytes := bytes) (maxL := maxL) (ret := ret) hM hp.1 hrc hrs hfr hlo hws hcw (fun a' U hW => word_at hW (Or.inl (by first | rfl | simp [Cond.onTables, Cond.keeps, Cond.steady])) hini)
  obtain ⟨hx, hb, hml, ho, -⟩ := S
  intro T hT X
  obtain ⟨v, vm₁, ⟨U', l2, c2, s2⟩, hW₁, X', ⟨g', mk, t, L, e1, e2, hq, h1, hL, h2, h3⟩, st⟩ := vx_callSW X hx (hh := hh) (bytes := bytes) (maxL := maxL) (ret := ret) ho hl hstt hini hcode hy hK hg (hsize.trans hml.symm) (argsL := As) (rest := rest) (fun sig h => hn.trans (hlen sig h)) hstack hW (by rw [hb]; exact hdg)
    (fun vm₁ hW₁ => ⟨hf.1, hf.2, hp.2 (T.setVm vm₁) hT hW₁⟩)
  dsimp only [Pt.U, Pt.locs, Pt.cells, Pt.slots] at X' e1 e2 h1 h2 h3 st
  subst h1; subst h2; subst h3
  exact ⟨v, (T.setVm vm₁).calling g' mk As.toArray, t, U', L, hT, X', hL, e1, e2, hq, st⟩
/-- not caught here, past rows that name other classes: it goes on to the caller -/
theorem vx_outP {p : Program} {l : Launch} {e : Env} {R : Room} {s : State} {m : MethodId} {args : Array Value} {below : List Frame} {meth : Method} {c : Code} {H : Heap} {locs : List Loc} {cells slots : Nat} {free : Addr → Prop} {ls : Array Slot} {rest : List Value} {Qc : Array Value → State → Outcome → State → Prop} {XC : String → State → State → Prop}
    {pc : Nat} {own E : String} {ce : Cell} {q : Addr} {mc ms : Nat} (hown : s.vm.findClass own = some m.cls) (hlocks : meth.locks = false)
    (hpass : ∀ z ∈ c.exceptionTable.toList, covers z pc = false ∨ (z.catchType ≠ 0 ∧ ∃ nm : String, (Cond.classLink own z.catchType nm).before args s = true ∧ va_Nc E nm s)) (hcell : H[q]? = some ce) (hv : ce.vm = .none) (hcl : s.vm.findClass E = some ce.cls)
    (hx : ∀ t : State, t.heap = H → s.vm.Alike t.vm → XC E s t) (hf : ∀ z ∈ locs, free z.base) (hc : cells ≤ mc) (hs : slots ≤ ms) :
    vx_W p l e R s m args below meth c H locs cells slots (vx_MQ below Qc XC args s mc ms free) (F0 m pc ls rest) q := by
  intro T hT X
  have hpl : e.platform.magicAccessors = ({} : Platform).magicAccessors := by rw [X.admits.platform]
  obtain ⟨vm', hW', X', st⟩ := X.outThrough hlocks q (g := F0 m pc ls rest) rfl rfl rfl (cell := ce) (by rw [hT]; exact hcell) (by rw [hv]; rfl)
    (by obtain ⟨k9, h9, -⟩ := Vm.findClass_spec hcl; exact ⟨k9, h9⟩) (fun z hz => by
      rcases hpass z hz with h | ⟨hz0, nm, hl1, hn1⟩
      · exact Or.inl h
      · obtain ⟨c6, hc6, hcl6⟩ := Cond.classLink_spec hown hl1 e.platform hpl
        obtain ⟨a8, b8, h1, h2, h3⟩ := hn1
        cases Option.some.inj (h1.symm.trans hcl)
        cases Option.some.inj (h2.symm.trans hc6)
        exact Or.inr ⟨hz0, _, hcl6, h3⟩)
  obtain ⟨g₀, hfr⟩ := X'.frames_eq
  have hcell9 : ((T.setVm vm').setFrames (.throwing q :: below)).heap[q]? = some ce := by
    show T.heap[q]? = some ce
    rw [hT]; exact hcell
  have hend : Ended ((T.setVm vm').setFrames (.throwing q :: below)) below (.threw q) := State.frames_setFrames _ (State.cur_lt_of_frames hfr)
  refine ⟨(T.setVm vm').setFrames (.throwing q :: below), ?_, .threw q, X'.here.running, hend, Or.inr ⟨q, rfl, E, ce, locs, hx _ hT (X'.ends _).1.alike, hcell9, hv, hcl, (X'.ends _).1, (X'.ends _).2.mono hc hs, hf⟩⟩
  rw [X.pushThrowing_eq]
  exact st
/-- a thing of a world lies in the heap -/
theorem vx_lt {D : va_G} {cl : List vw_C} {ws : va_W} {H1 : Heap} (h : va_P D cl ws H1) {k : Nat} {q : Nat × va_E} (hk : ws[k]? = some q) : q.1 < H1.size := (h k q hk).lt
end VXS
/-! ===== END ===== -/
/-! ===== BEGIN methods with a table of their own: called by a name, returning or throwing ===== -/
section VXH
/-! vx_backW, vx_callVX, vx_callSX, vx_callVW, vx_runVW, vx_runVX, vx_runSX, vx_ofWH follow the same proofs as their sisters above (Free/Laws.lean, Shelf42/LK1.lean); vx_outP calls Shelf42/NT130.lean (outThrough). -/
section
variable {l : Launch} {R : Room} {p : Program} {e : Env} {below : List Frame} {s : State} {sargs : Array Value} {y : MethodName} {len W9 : Nat}
theorem vx_backW {ws : List Cond} {rm : Room} {Pc : Array Value → State → Prop} {Qc : Array Value → State → Outcome → State → Prop} {XC : String → State → State → Prop} {mc ms : Nat} {free : Addr → Prop} {bytes : ByteArray} {maxL : Nat} {ret : Option FieldType} {hh : List (Nat × Nat × Nat × Nat)}
    (hM : vx_Met l y ws rm Pc Qc XC mc ms free) (hblind : FrameBlind Pc) (hrc : rm.cells = mc) (hrs : rm.slots = ms)
    (hframes : rm.frames + 1 ≤ R.frames) (hlocals : W9 + (maxL + 11) + rm.locals ≤ R.locals)
    (hws : ∀ w ∈ ws, ∀ a' U, s.WarmedH U.vm → w.before a' U = true) (hcode : Cond.codeWith y bytes maxL ret hh ∈ ws) (hinit : ∀ a' U, s.WarmedH U.vm → (Cond.initialized y.cls).before a' U = true) :
    vx_Back l R p e below s sargs y len W9 (PreOf R mc ms Pc) (PostOf Qc mc ms free) (vx_Post XC mc ms free) := by
  intro m meth c A g ig mk a X hg hsize hdg hW hn hp
  have h1 : (headSpec ws rm).pre.before a A.U = true := atoms_intro fun w hw => hws w hw _ _ X.warmed
  have h2 : (Cond.codeWith y bytes maxL ret hh).before a A.U = true := hws _ hcode _ _ X.warmed
  have h3 : (Cond.initialized y.cls).before a A.U = true := hinit _ _ X.warmed
  have h4 : A.cells + (headSpec ws rm).room.cells ≤ R.cells := by rw [show (headSpec ws rm).room.cells = mc from hrc]; exact hp.1
  have h5 : A.slots + (headSpec ws rm).room.slots ≤ R.slots := by rw [show (headSpec ws rm).room.slots = ms from hrs]; exact hp.2.1
  have hPc : Pc a (A.U.calling g mk a) := hblind _ _ _ _ hp.2.2
  obtain ⟨U, Ls, c0, s0⟩ := A
  dsimp only [Pt.U, Pt.locs, Pt.cells, Pt.slots] at h1 h2 h3 h4 h5 X hn hPc ⊢
  obtain ⟨m9, methY, cY, hn9, hmY, hcY, -, hlY, -⟩ := Cond.codeWith_spec h2
  cases Option.some.inj (hn9.symm.trans hn)
  obtain ⟨kY, hkY, -⟩ := className_of_methodNamed hn
  have hinitY : kY.init = .initialized := Cond.initialized_spec (findClass_of_methodNamed hn) hkY h3
  have h : At U g.method c below := by rw [hg]; exact X.here
  have hlocals9 : W9 + (maxL + 11) + (headSpec ws rm).room.locals ≤ R.locals := hlocals
  have happ : (headSpec ws rm).appliesLoose y e.platform (U.calling g mk a) = true :=
    Spec.appliesLoose_calling (g := g) h hdg hn hkY hinitY
      (X.room_calling (g := g) (R' := (headSpec ws rm).room) hsize hmY hcY hframes (by rw [hlY]; omega) h4 h5) h1
  obtain ⟨mid, hmid⟩ := h.above
  have hfr : (U.setTop g).frames = (.java g :: mid) ++ below := by rw [State.frames_setTop' g h.top, hmid]; rfl
  obtain ⟨o, s₂, hsteps, -, hend, hq⟩ := Steps.callFree hM p X.admits X.cas X.clock (acts := []) hfr happ hPc trivial
  have hq' : vx_Q Qc XC mc ms free a (U.calling g mk a) o s₂ := hq
  rw [State.frames_setTop' g h.top] at hend
  obtain ⟨g₀, hg0⟩ := Option.isSome_iff_exists.mp h.top
  obtain ⟨r, hr⟩ := State.topJava?_eq_some.mp hg0
  have hr' : (({ U with heap := s₂.heap, slotsUsed := s₂.slotsUsed } : State).setVm s₂.vm).frames = .java g₀ :: r := hr
  rcases hq' with ⟨hqc, L, hfe, hL⟩ | ⟨q, rfl, E, ce, L, hx, hce, hcv, hcl, hW₂, hsm, hL⟩
  · obtain ⟨⟨v, rfl⟩, hW₂, e2, q2, q3, q4, q5, q6⟩ := id hfe
    have e3 : s₂ = ({ (U.calling g mk a).setFrames s₂.frames with heap := s₂.heap, slotsUsed := s₂.slotsUsed } : State).setVm s₂.vm := by
      have : s₂ = ({ s₂ with vm := (U.calling g mk a).vm } : State).setVm s₂.vm := rfl
      rw [e2] at this
      exact this
    obtain ⟨c₂, i₂, len₂, hc₂, hd₂, hf₂⟩ := hend
    have hW' : U.WarmedH s₂.vm := hW₂
    have hcc : c₂ = c := by
      have h1 : s₂.code? g.method = U.code? g.method := by
        rw [State.code?_eq, State.code?_eq, hW'.alike.method?]
      exact Option.some.inj (hc₂.symm.trans (h1.trans h.code))
    subst hcc
    have hlen : len₂ = len := by rw [hdg] at hd₂; cases hd₂; rfl
    subst hlen
    have hs₂ : s₂ = (({ U with heap := s₂.heap, slotsUsed := s₂.slotsUsed } : State).setVm s₂.vm).setTop { g with pc := g.pc + len₂, stack := v.toList ++ g.stack } := by
      refine e3.trans ?_
      rw [hf₂, State.calling_eq h.top, State.setFrames_setFrames, State.setTop_of_frames _ hr', hr]
      rfl
    have hsame : U.sameButNew ({ U with heap := s₂.heap, slotsUsed := s₂.slotsUsed } : State) L mc ms := by
      refine ⟨?_, q2, q3, q4, q5, q6⟩
      obtain ⟨t, ht, -⟩ := State.frames_cons hr
      show ({ U with heap := s₂.heap, slotsUsed := s₂.slotsUsed } : State) = { U.setFrames U.frames with heap := s₂.heap, slotsUsed := s₂.slotsUsed }
      rw [State.setFrames_self ht]
    subst hg
    refine Or.inl ⟨v, ⟨(({ U with heap := s₂.heap, slotsUsed := s₂.slotsUsed } : State).setVm s₂.vm), Ls ++ L, c0 + mc, s0 + ms⟩,
      ⟨X.admits, X.cas, X.clock, X.frames, X.room, X.hears, X.method, X.code, (X.here.setHeapUsed s₂.heap s₂.slotsUsed).setVm hW'.alike, X.tail, State.WarmedH.trans X.warmed hW', X.limits, X.bytes, X.same.trans (hsame.setVm s.vm)⟩,
      ⟨g, mk, s₂, L, rfl, rfl, hqc, rfl, hL, rfl, rfl⟩, ?_⟩
    show Steps p.tables e below _ ((({ U with heap := s₂.heap, slotsUsed := s₂.slotsUsed } : State).setVm s₂.vm).setTop { g with pc := g.pc + len₂, stack := v.toList ++ g.stack })
    rw [← hs₂]
    exact hsteps
  · obtain ⟨e2, q2, q3, q4, q5, q6⟩ := id hsm
    have e3 : s₂ = ({ (U.calling g mk a).setFrames s₂.frames with heap := s₂.heap, slotsUsed := s₂.slotsUsed } : State).setVm s₂.vm := by
      have : s₂ = ({ s₂ with vm := (U.calling g mk a).vm } : State).setVm s₂.vm := rfl
      rw [e2] at this
      exact this
    have hf₂ : s₂.frames = .throwing q :: .java g :: U.frames.tail := hend
    have hW' : U.WarmedH s₂.vm := hW₂
    have hs₂ : s₂ = ((({ U with heap := s₂.heap, slotsUsed := s₂.slotsUsed } : State).setVm s₂.vm).setTop g).pushFrame (.throwing q) := by
      refine e3.trans ?_
      rw [hf₂, State.calling_eq h.top, State.setFrames_setFrames, State.pushFrame, State.frames_setTop _ hr', State.setTop_of_frames _ hr', State.setFrames_setFrames, hr]
      rfl
    have hsame : U.sameButNew ({ U with heap := s₂.heap, slotsUsed := s₂.slotsUsed } : State) L mc ms := by
      refine ⟨?_, q2, q3, q4, q5, q6⟩
      obtain ⟨t, ht, -⟩ := State.frames_cons hr
      show ({ U with heap := s₂.heap, slotsUsed := s₂.slotsUsed } : State) = { U.setFrames U.frames with heap := s₂.heap, slotsUsed := s₂.slotsUsed }
      rw [State.setFrames_self ht]
    subst hg
    refine Or.inr ⟨q, ⟨(({ U with heap := s₂.heap, slotsUsed := s₂.slotsUsed } : State).setVm s₂.vm), Ls ++ L, c0 + mc, s0 + ms⟩,
      ⟨X.admits, X.cas, X.clock, X.frames, X.room, X.hears, X.method, X.code, (X.here.setHeapUsed s₂.heap s₂.slotsUsed).setVm hW'.alike, X.tail, State.WarmedH.trans X.warmed hW', X.limits, X.bytes, X.same.trans (hsame.setVm s.vm)⟩,
      ⟨g, mk, s₂, L, E, ce, rfl, rfl, hx, hce, hcv, hcl, rfl, hL, rfl, rfl⟩, ?_⟩
    show Steps p.tables e below _ (((({ U with heap := s₂.heap, slotsUsed := s₂.slotsUsed } : State).setVm s₂.vm).setTop g).pushFrame (.throwing q))
    rw [← hs₂]
    exact hsteps
end
variable {p : Program} {l : Launch} {e : Env} {R : Room} {s : State} {m : MethodId} {args : Array Value} {below : List Frame} {meth : Method} {c : Code} {T : State} {H : Heap} {locs : List Loc} {cells slots : Nat}
theorem vx_callVX (X : Stand p l e R s m args below meth c T locs cells slots) (hexec : p.tables.exec = Jvm.exec) {own C : String} {index : Nat} {y : MethodName} {bytes : ByteArray} {maxL : Nat} {ret : Option FieldType} {hh : List (Nat × Nat × Nat × Nat)}
    (hown : s.vm.findClass own = some m.cls) (hlink : (Cond.methodLink own index y).before args s = true) (hinst : (Cond.instanceMethod y).before args s = true) (hsel : (Cond.selects C y y).before args s = true)
    (hcode : (Cond.codeWith y bytes maxL ret hh).before args s = true) (hy : y.cls ≠ "java/lang/invoke/MethodHandle" ∧ y.cls ≠ "java/lang/invoke/VarHandle")
    {W9 : Nat} {Pre : Pt → Array Value → Prop} {Post : Pt → Array Value → Option Value → Pt → Prop} {PostX : Pt → Array Value → Addr → Pt → Prop} (hK : vx_Back l R p e below s args y 3 W9 Pre Post PostX)
    {b : Addr} {cellB : Cell} (hcell : T.heap[b]? = some cellB) (hobj : cellB.vm.isStatics = false) (hcls : s.vm.findClass C = some cellB.cls)
    {g : JFrame} (hg : g.method = m) (hsize : g.locals.size = c.maxLocals) {argsL rest : List Value} (hlen : ∀ sig, parseMethodDescriptor y.desc = some sig → argsL.length = sig.parameters.length)
    (hstack : g.stack = argsL.reverse ++ .ref b :: rest) (hW : 2 * g.monitorRoom + (rest.map fun v => v.category).sum ≤ W9) (hdg : decode c.code g.pc = .ok (.invokevirtual index, 3))
    (hpre : ∀ vm₁, s.WarmedH vm₁ → Pre ⟨T.setVm vm₁, locs, cells, slots⟩ (Value.ref b :: argsL).toArray) :
    (∃ (v : Option Value) (vm₁ : Vm) (B : Pt), s.WarmedH vm₁ ∧ Stand p l e R s m args below meth c B.U B.locs B.cells B.slots ∧ Post ⟨T.setVm vm₁, locs, cells, slots⟩ (Value.ref b :: argsL).toArray v B ∧
      ∀ target, Steps p.tables e below (B.U.setTop { g with pc := g.pc + 3, stack := v.toList ++ rest }) target → Steps p.tables e below (T.setTop g) target) ∨
    (∃ (q : Addr) (vm₁ : Vm) (B : Pt), s.WarmedH vm₁ ∧ Stand p l e R s m args below meth c B.U B.locs B.cells B.slots ∧ PostX ⟨T.setVm vm₁, locs, cells, slots⟩ (Value.ref b :: argsL).toArray q B ∧
      Steps p.tables e below (T.setTop g) ((B.U.setTop { g with stack := rest }).pushFrame (.throwing q))) := by
  obtain ⟨mk, methM, hnamed, hmethM, hstM, habM⟩ := Cond.instanceMethod_spec hinst
  obtain ⟨m8, methM', cM, hn8, hmethM', -, -, -, -, -, -, hsigM⟩ := Cond.codeWith_spec hcode
  cases Option.some.inj (hn8.symm.trans hnamed)
  cases hmethM.symm.trans hmethM'
  obtain ⟨c2, r2, m2, q1, q2, q3, q4, kP, hkP, hkPi⟩ := Cond.selects_spec hsel
  cases hcls.symm.trans q1
  cases (State.methodFound?_of_named hnamed hy).symm.trans q2
  cases hnamed.symm.trans q3
  have hselP : selectMethod e.platform s.vm cellB.cls mk = .method mk := by rw [Launch.admits_selectMethod X.admits]; exact q4
  obtain ⟨vm₁, X₁, hstep₁⟩ := X.invokevirtual hexec hown hlink hnamed hmethM hstM hkP hkPi hy (a := b) (cell := cellB) hcell
    (fun z h => by rw [h] at hobj; cases hobj) hselP hmethM habM hkP hkPi (g := g) hg (argsL := argsL) (rest := rest) (hlen _ hsigM) hstack hdg
  rcases hK m meth c ⟨T.setVm vm₁, locs, cells, slots⟩ { g with stack := rest } (.invokevirtual index) mk (Value.ref b :: argsL).toArray X₁ hg hsize hdg hW (X₁.named hnamed) (hpre vm₁ X₁.warmed) with ⟨v, B, X', hpost, hsteps⟩ | ⟨q, B, X', hpost, hsteps⟩
  · exact Or.inl ⟨v, vm₁, B, X₁.warmed, X', hpost, fun target h => hstep₁ _ fun acts => by rw [doInvoke_state]; exact hsteps.trans h⟩
  · exact Or.inr ⟨q, vm₁, B, X₁.warmed, X', hpost, hstep₁ _ fun acts => by rw [doInvoke_state]; exact hsteps⟩
theorem vx_callSX (X : Stand p l e R s m args below meth c T locs cells slots) (hexec : p.tables.exec = Jvm.exec) {own : String} {index : Nat} {y : MethodName} {bytes : ByteArray} {maxL : Nat} {ret : Option FieldType} {hh : List (Nat × Nat × Nat × Nat)}
    (hown : s.vm.findClass own = some m.cls) (hlink : (Cond.methodLink own index y).before args s = true) (hstat : (Cond.static y).before args s = true) (hinit : (Cond.initialized y.cls).before args s = true)
    (hcode : (Cond.codeWith y bytes maxL ret hh).before args s = true) (hy : y.cls ≠ "java/lang/invoke/MethodHandle" ∧ y.cls ≠ "java/lang/invoke/VarHandle")
    {W9 : Nat} {Pre : Pt → Array Value → Prop} {Post : Pt → Array Value → Option Value → Pt → Prop} {PostX : Pt → Array Value → Addr → Pt → Prop} (hK : vx_Back l R p e below s args y 3 W9 Pre Post PostX)
    {g : JFrame} (hg : g.method = m) (hsize : g.locals.size = c.maxLocals) {argsL rest : List Value} (hlen : ∀ sig, parseMethodDescriptor y.desc = some sig → argsL.length = sig.parameters.length)
    (hstack : g.stack = argsL.reverse ++ rest) (hW : 2 * g.monitorRoom + (rest.map fun v => v.category).sum ≤ W9) (hdg : decode c.code g.pc = .ok (.invokestatic index, 3))
    (hpre : ∀ vm₁, s.WarmedH vm₁ → Pre ⟨T.setVm vm₁, locs, cells, slots⟩ argsL.toArray) :
    (∃ (v : Option Value) (vm₁ : Vm) (B : Pt), s.WarmedH vm₁ ∧ Stand p l e R s m args below meth c B.U B.locs B.cells B.slots ∧ Post ⟨T.setVm vm₁, locs, cells, slots⟩ argsL.toArray v B ∧
      ∀ target, Steps p.tables e below (B.U.setTop { g with pc := g.pc + 3, stack := v.toList ++ rest }) target → Steps p.tables e below (T.setTop g) target) ∨
    (∃ (q : Addr) (vm₁ : Vm) (B : Pt), s.WarmedH vm₁ ∧ Stand p l e R s m args below meth c B.U B.locs B.cells B.slots ∧ PostX ⟨T.setVm vm₁, locs, cells, slots⟩ argsL.toArray q B ∧
      Steps p.tables e below (T.setTop g) ((B.U.setTop { g with stack := rest }).pushFrame (.throwing q))) := by
  obtain ⟨mk, methM, cM, hnamed, hmethM, -, -, -, -, -, -, hsigM⟩ := Cond.codeWith_spec hcode
  have hstatic : methM.isStatic = true := Cond.static_spec hnamed hmethM hstat
  obtain ⟨kP, hkP, -⟩ := className_of_methodNamed hnamed
  have hinitP : kP.init = .initialized := Cond.initialized_spec (findClass_of_methodNamed hnamed) hkP hinit
  obtain ⟨vm₁, X₁, hstep₁⟩ := X.invokestatic hexec hown hlink hnamed hmethM hstatic hkP hinitP hy (g := g) hg (argsL := argsL) (rest := rest) (hlen _ hsigM) hstack hdg
  rcases hK m meth c ⟨T.setVm vm₁, locs, cells, slots⟩ { g with stack := rest } (.invokestatic index) mk argsL.toArray X₁ hg hsize hdg hW (X₁.named hnamed) (hpre vm₁ X₁.warmed) with ⟨v, B, X', hpost, hsteps⟩ | ⟨q, B, X', hpost, hsteps⟩
  · exact Or.inl ⟨v, vm₁, B, X₁.warmed, X', hpost, fun target h => hstep₁ _ fun acts => by rw [doInvoke_state]; exact hsteps.trans h⟩
  · exact Or.inr ⟨q, vm₁, B, X₁.warmed, X', hpost, hstep₁ _ fun acts => by rw [doInvoke_state]; exact hsteps⟩
theorem vx_callVW (X : Stand p l e R s m args below meth c T locs cells slots) (hexec : p.tables.exec = Jvm.exec) {own C : String} {index : Nat} {y : MethodName} {bytes : ByteArray} {maxL : Nat} {ret : Option FieldType} {hh : List (Nat × Nat × Nat × Nat)}
    (hown : s.vm.findClass own = some m.cls) (hlink : (Cond.methodLink own index y).before args s = true) (hinst : (Cond.instanceMethod y).before args s = true) (hsel : (Cond.selects C y y).before args s = true)
    (hcode : (Cond.codeWith y bytes maxL ret hh).before args s = true) (hy : y.cls ≠ "java/lang/invoke/MethodHandle" ∧ y.cls ≠ "java/lang/invoke/VarHandle")
    {W9 : Nat} {Pre : Pt → Array Value → Prop} {Post : Pt → Array Value → Option Value → Pt → Prop} (hK : Back l R p e below s args y 3 W9 Pre Post)
    {b : Addr} {cellB : Cell} (hcell : T.heap[b]? = some cellB) (hobj : cellB.vm.isStatics = false) (hcls : s.vm.findClass C = some cellB.cls)
    {g : JFrame} (hg : g.method = m) (hsize : g.locals.size = c.maxLocals) {argsL rest : List Value} (hlen : ∀ sig, parseMethodDescriptor y.desc = some sig → argsL.length = sig.parameters.length)
    (hstack : g.stack = argsL.reverse ++ .ref b :: rest) (hW : 2 * g.monitorRoom + (rest.map fun v => v.category).sum ≤ W9) (hdg : decode c.code g.pc = .ok (.invokevirtual index, 3))
    (hpre : ∀ vm₁, s.WarmedH vm₁ → Pre ⟨T.setVm vm₁, locs, cells, slots⟩ (Value.ref b :: argsL).toArray) :
    ∃ (v : Option Value) (vm₁ : Vm) (B : Pt), s.WarmedH vm₁ ∧ Stand p l e R s m args below meth c B.U B.locs B.cells B.slots ∧ Post ⟨T.setVm vm₁, locs, cells, slots⟩ (Value.ref b :: argsL).toArray v B ∧
      ∀ target, Steps p.tables e below (B.U.setTop { g with pc := g.pc + 3, stack := v.toList ++ rest }) target → Steps p.tables e below (T.setTop g) target := by
  obtain ⟨mk, methM, hnamed, hmethM, hstM, habM⟩ := Cond.instanceMethod_spec hinst
  obtain ⟨m8, methM', cM, hn8, hmethM', -, -, -, -, -, -, hsigM⟩ := Cond.codeWith_spec hcode
  cases Option.some.inj (hn8.symm.trans hnamed)
  cases hmethM.symm.trans hmethM'
  obtain ⟨c2, r2, m2, q1, q2, q3, q4, kP, hkP, hkPi⟩ := Cond.selects_spec hsel
  cases hcls.symm.trans q1
  cases (State.methodFound?_of_named hnamed hy).symm.trans q2
  cases hnamed.symm.trans q3
  have hselP : selectMethod e.platform s.vm cellB.cls mk = .method mk := by rw [Launch.admits_selectMethod X.admits]; exact q4
  obtain ⟨vm₁, X₁, hstep₁⟩ := X.invokevirtual hexec hown hlink hnamed hmethM hstM hkP hkPi hy (a := b) (cell := cellB) hcell
    (fun z h => by rw [h] at hobj; cases hobj) hselP hmethM habM hkP hkPi (g := g) hg (argsL := argsL) (rest := rest) (hlen _ hsigM) hstack hdg
  obtain ⟨v, B, X', hpost, hsteps⟩ := hK m meth c ⟨T.setVm vm₁, locs, cells, slots⟩ { g with stack := rest } (.invokevirtual index) mk (Value.ref b :: argsL).toArray X₁ hg hsize hdg hW (X₁.named hnamed) (hpre vm₁ X₁.warmed)
  exact ⟨v, vm₁, B, X₁.warmed, X', hpost, fun target h => hstep₁ _ fun acts => by rw [doInvoke_state]; exact hsteps.trans h⟩
abbrev vx_CVW (R : Room) (s : State) (args : Array Value) (own C : String) (index : Nat) (y : MethodName) (bytes : ByteArray) (maxL : Nat) (ret : Option FieldType) (hh : List (Nat × Nat × Nat × Nat)) (ws : List Cond) (rm : Room) (mc ms n : Nat) : Prop :=
  (rm.cells = mc ∧ rm.slots = ms ∧ rm.frames + 1 ≤ R.frames ∧ 8 + (maxL + 11) + rm.locals ≤ R.locals ∧ (∀ w ∈ ws, ∀ (a' : Array Value) (U : State), s.WarmedH U.vm → w.before a' U = true) ∧ Cond.codeWith y bytes maxL ret hh ∈ ws) ∧
  (Cond.codeWith y bytes maxL ret hh).before args s = true ∧ (Cond.initialized y.cls).before args s = true ∧ (y.cls ≠ "java/lang/invoke/MethodHandle" ∧ y.cls ≠ "java/lang/invoke/VarHandle") ∧
  (∀ sig, parseMethodDescriptor y.desc = some sig → n = sig.parameters.length) ∧ (Cond.methodLink own index y).before args s = true ∧ (Cond.instanceMethod y).before args s = true ∧ (Cond.selects C y y).before args s = true
theorem vx_cwVW {own C : String} {index maxL mc ms : Nat} {y : MethodName} {bytes : ByteArray} {ret : Option FieldType} {hh : List (Nat × Nat × Nat × Nat)} {Ts ws ws' : List Cond} {rm : Room} (n : Nat) (ht : ∀ w ∈ Ts, w.before args s = true) (hT : GoodIn Ts (wsV own index C y ws)) (hw : ws = Cond.codeWith y bytes maxL ret hh :: ws') (hrc : rm.cells = mc) (hrs : rm.slots = ms)
    (hd : y.cls = C ∧ y.cls ≠ "java/lang/invoke/MethodHandle" ∧ y.cls ≠ "java/lang/invoke/VarHandle" ∧ (parseMethodDescriptor y.desc).map (fun d => d.parameters.length) = some n) (hR : rm.frames + 1 ≤ R.frames ∧ 8 + (maxL + 11) + rm.locals ≤ R.locals) :
    vx_CVW R s args own C index y bytes maxL ret hh ws rm mc ms n := by
  obtain ⟨hC, hd⟩ := hd
  subst hC
  have ok : ∀ w ∈ wsV own index y.cls y ws, w.before args s = true := fun w h => ht w (hT w h).1
  have hG : GoodIn Ts ws := fun w h => hT w (by unfold wsV; exact List.mem_append_right _ h)
  have hc : Cond.codeWith y bytes maxL ret hh ∈ ws := by rw [hw]; exact List.mem_cons_self
  refine ⟨⟨hrc, hrs, hR.1, hR.2, pay_in ht hG, hc⟩, ht _ (hG _ hc).1, ok _ (by simp [wsV]), ⟨hd.1, hd.2.1⟩, fun sig h => ?_, ok _ (by simp [wsV]), ok _ (by simp [wsV]), ok _ (by simp [wsV])⟩
  have h2 := hd.2.2
  rw [h] at h2
  exact (Option.some.inj h2).symm
theorem vx_runVW {y : MethodName} {bytes cc : ByteArray} {maxL nL mc ms n index : Nat} {ret : Option FieldType} {hh : List (Nat × Nat × Nat × Nat)} {ws : List Cond} {rm : Room} {Pc : Array Value → State → Prop} {Qc : Array Value → State → Outcome → State → Prop} {free : Addr → Prop} {Ts : List Cond} {own C : String} {b : Addr} {As rest : List Value} {g : JFrame}
    (S : CallFix p m c cc nL s args Ts own) (hM : Met l y ws rm Pc Qc mc ms free) (cw : vx_CVW R s args own C index y bytes maxL ret hh ws rm mc ms n) (hp : PreV s H C b Pc As)
    (hg : g.method = m) (hn : As.length = n) (hsize : g.locals.size = nL) (hstack : g.stack = As.reverse ++ .ref b :: rest) (hW : 2 * g.monitorRoom + (rest.map fun v => v.category).sum ≤ 8) (hdg : decode cc g.pc = .ok (.invokevirtual index, 3)) (hf : cells + mc ≤ R.cells ∧ slots + ms ≤ R.slots) :
    va_Run p l e R s m args below meth c H locs cells slots mc ms g rest (Qc (Value.ref b :: As).toArray) free := by
  obtain ⟨⟨hrc, hrs, hfr, hlo, hws, hcw⟩, hcode, hini, hy, hlen, hl, hin, hse⟩ := cw
  have hK : Back l R p e below s args y 3 8 (PreOf R mc ms Pc) (PostOf Qc mc ms free) := va_backW (hh := hh) (bytes := bytes) (maxL := maxL) (ret := ret) hM hp.1 hrc hrs hfr hlo hws hcw (fun a' U hW => word_at hW (Or.inl (by first | rfl | simp [Cond.onTables, Cond.keeps, Cond.steady])) hini)
  obtain ⟨hx, hb, hml, ho, -⟩ := S
  obtain ⟨-, ⟨cellB, hcB, hoB, hclB⟩, hPc⟩ := hp
  intro T hT X
  obtain ⟨v, vm₁, ⟨U', l2, c2, s2⟩, hW₁, X', ⟨g', mk, t, L, e1, e2, hq, h1, hL, h2, h3⟩, st⟩ := vx_callVW X hx (C := C) (hh := hh) (bytes := bytes) (maxL := maxL) (ret := ret) ho hl hin hse hcode hy hK (by rw [hT]; exact hcB) hoB hclB hg (hsize.trans hml.symm) (argsL := As) (rest := rest) (fun sig h => hn.trans (hlen sig h)) hstack hW (by rw [hb]; exact hdg)
    (fun vm₁ hW₁ => ⟨hf.1, hf.2, hPc (T.setVm vm₁) hT hW₁⟩)
  dsimp only [Pt.U, Pt.locs, Pt.cells, Pt.slots] at X' e1 e2 h1 h2 h3 st
  subst h1; subst h2; subst h3
  exact ⟨v, (T.setVm vm₁).calling g' mk (Value.ref b :: As).toArray, t, U', L, hT, X', hL, e1, e2, hq, st⟩
section
variable {y : MethodName} {bytes cc : ByteArray} {maxL nL mc ms n index : Nat} {ret : Option FieldType} {ws : List Cond} {rm : Room} {Pc : Array Value → State → Prop} {Qc : Array Value → State → Outcome → State → Prop} {XC : String → State → State → Prop} {free : Addr → Prop} {Ts : List Cond} {own C : String} {b : Addr} {As rest : List Value} {g : JFrame}
theorem vx_runVX {hh : List (Nat × Nat × Nat × Nat)} (S : CallFix p m c cc nL s args Ts own) (hM : vx_Met l y ws rm Pc Qc XC mc ms free) (cw : vx_CVW R s args own C index y bytes maxL ret hh ws rm mc ms n) (hp : PreV s H C b Pc As)
    (hg : g.method = m) (hn : As.length = n) (hsize : g.locals.size = nL) (hstack : g.stack = As.reverse ++ .ref b :: rest) (hW : 2 * g.monitorRoom + (rest.map fun v => v.category).sum ≤ 8) (hdg : decode cc g.pc = .ok (.invokevirtual index, 3)) (hf : cells + mc ≤ R.cells ∧ slots + ms ≤ R.slots) :
    vx_Run p l e R s m args below meth c H locs cells slots mc ms g rest (Qc (Value.ref b :: As).toArray) XC free := by
  obtain ⟨⟨hrc, hrs, hfr, hlo, hws, hcw⟩, hcode, hini, hy, hlen, hl, hin, hse⟩ := cw
  have hK : vx_Back l R p e below s args y 3 8 (PreOf R mc ms Pc) (PostOf Qc mc ms free) (vx_Post XC mc ms free) := vx_backW (hh := hh) (bytes := bytes) (maxL := maxL) (ret := ret) hM hp.1 hrc hrs hfr hlo hws hcw (fun a' U hW => word_at hW (Or.inl (by first | rfl | simp [Cond.onTables, Cond.keeps, Cond.steady])) hini)
  obtain ⟨hx, hb, hml, ho, -⟩ := S
  obtain ⟨-, ⟨cellB, hcB, hoB, hclB⟩, hPc⟩ := hp
  intro T hT X
  rcases vx_callVX X hx (C := C) (hh := hh) (bytes := bytes) (maxL := maxL) (ret := ret) ho hl hin hse hcode hy hK (by rw [hT]; exact hcB) hoB hclB hg (hsize.trans hml.symm) (argsL := As) (rest := rest) (fun sig h => hn.trans (hlen sig h)) hstack hW (by rw [hb]; exact hdg)
    (fun vm₁ hW₁ => ⟨hf.1, hf.2, hPc (T.setVm vm₁) hT hW₁⟩) with ⟨v, vm₁, ⟨U', l2, c2, s2⟩, hW₁, X', ⟨g', mk, t, L, e1, e2, hq, h1, hL, h2, h3⟩, st⟩ | ⟨q, vm₁, ⟨U', l2, c2, s2⟩, hW₁, X', ⟨g', mk, t, L, E, ce, e1, e2, hq, hce, hcv, hcl, h1, hL, h2, h3⟩, st⟩
  · dsimp only [Pt.U, Pt.locs, Pt.cells, Pt.slots] at X' e1 e2 h1 h2 h3 st
    subst h1; subst h2; subst h3
    exact Or.inl ⟨v, (T.setVm vm₁).calling g' mk (Value.ref b :: As).toArray, t, U', L, hT, X', hL, e1, e2, hq, st⟩
  · dsimp only [Pt.U, Pt.locs, Pt.cells, Pt.slots] at X' e1 e2 h1 h2 h3 st hcl
    subst h1; subst h2; subst h3
    exact Or.inr ⟨q, (T.setVm vm₁).calling g' mk (Value.ref b :: As).toArray, t, U', L, E, ce, hT, X', hL, e1, e2, hq, hce, hcv, vx_cls hW₁ hcl, st⟩
theorem vx_runSX {hh : List (Nat × Nat × Nat × Nat)} (S : CallFix p m c cc nL s args Ts own) (hM : vx_Met l y ws rm Pc Qc XC mc ms free) (cw : vx_CSW R s args own index y bytes maxL ret hh ws rm mc ms n) (hp : PreS s H Pc As)
    (hg : g.method = m) (hn : As.length = n) (hsize : g.locals.size = nL) (hstack : g.stack = As.reverse ++ rest) (hW : 2 * g.monitorRoom + (rest.map fun v => v.category).sum ≤ 8) (hdg : decode cc g.pc = .ok (.invokestatic index, 3)) (hf : cells + mc ≤ R.cells ∧ slots + ms ≤ R.slots) :
    vx_Run p l e R s m args below meth c H locs cells slots mc ms g rest (Qc As.toArray) XC free := by
  obtain ⟨⟨hrc, hrs, hfr, hlo, hws, hcw⟩, hcode, hini, hy, hlen, hl, hstt⟩ := cw
  have hK : vx_Back l R p e below s args y 3 8 (PreOf R mc ms Pc) (PostOf Qc mc ms free) (vx_Post XC mc ms free) := vx_backW (hh := hh) (bytes := bytes) (maxL := maxL) (ret := ret) hM hp.1 hrc hrs hfr hlo hws hcw (fun a' U hW => word_at hW (Or.inl (by first | rfl | simp [Cond.onTables, Cond.keeps, Cond.steady])) hini)
  obtain ⟨hx, hb, hml, ho, -⟩ := S
  intro T hT X
  rcases vx_callSX X hx (hh := hh) (bytes := bytes) (maxL := maxL) (ret := ret) ho hl hstt hini hcode hy hK hg (hsize.trans hml.symm) (argsL := As) (rest := rest) (fun sig h => hn.trans (hlen sig h)) hstack hW (by rw [hb]; exact hdg)
    (fun vm₁ hW₁ => ⟨hf.1, hf.2, hp.2 (T.setVm vm₁) hT hW₁⟩) with ⟨v, vm₁, ⟨U', l2, c2, s2⟩, hW₁, X', ⟨g', mk, t, L, e1, e2, hq, h1, hL, h2, h3⟩, st⟩ | ⟨q, vm₁, ⟨U', l2, c2, s2⟩, hW₁, X', ⟨g', mk, t, L, E, ce, e1, e2, hq, hce, hcv, hcl, h1, hL, h2, h3⟩, st⟩
  · dsimp only [Pt.U, Pt.locs, Pt.cells, Pt.slots] at X' e1 e2 h1 h2 h3 st
    subst h1; subst h2; subst h3
    exact Or.inl ⟨v, (T.setVm vm₁).calling g' mk As.toArray, t, U', L, hT, X', hL, e1, e2, hq, st⟩
  · dsimp only [Pt.U, Pt.locs, Pt.cells, Pt.slots] at X' e1 e2 h1 h2 h3 st hcl
    subst h1; subst h2; subst h3
    exact Or.inr ⟨q, (T.setVm vm₁).calling g' mk As.toArray, t, U', L, E, ce, hT, X', hL, e1, e2, hq, hce, hcv, vx_cls hW₁ hcl, st⟩
end
end VXH
theorem vx_ofWH {l : Launch} {y : MethodName} {ws ws' : List Cond} {rm : Room} {Pc : Array Value → State → Prop} {Qc : Array Value → State → Outcome → State → Prop} {XC : String → State → State → Prop} {mc ms : Nat} {free : Addr → Prop} {cc : ByteArray} {maxL : Nat} {ret : Option FieldType} {hh : List (Nat × Nat × Nat × Nat)}
    (hy : plainName y.cls = true) (hw : ws = Cond.codeWith y cc maxL ret hh :: ws')
    (body : ∀ p e s m args below meth c s₁, BodyLoose p l y (headSpec ws rm) cc maxL ret e s m args below meth c s₁ → c.maxLocals = maxL → Pc args s →
      W p l e (headSpec ws rm).room s m args below meth c s.heap [] 0 0 (vx_MQ below Qc XC args s mc ms free) (entryFrame m args maxL)) : vx_Met l y ws rm Pc Qc XC mc ms free := by
  refine MetFree.of_bodyS (code := cc) (maxLocals := maxL) (ret := ret) hy ?_ ?_
  · intro args s m h hn
    obtain ⟨m9, meth, c, hn9, h1, h2, h3, h4, -, h5, h6, -⟩ := Cond.codeWith_spec (atoms_spec (ws := ws) h _ (by rw [hw]; exact List.mem_cons_self))
    cases hn.symm.trans hn9
    exact ⟨meth, c, h1, h2, h3, h4, h5, h6⟩
  · intro p e s m args below meth c s₁ B hml hP _
    have hh0 : s₁.heap = s.heap := by rw [B.state]; rfl
    obtain ⟨t, a1, o, b1, b2, b3⟩ := body p e s m args below meth c s₁ B hml hP s₁ hh0 (Stand.of_body B)
    exact ⟨t, o, a1, b1, b2, b3⟩
/-! ===== END ===== -/
end
section
/-! ===== BEGIN printed: names, fields, word lists, decode rows ===== -/
def RX0 : String := "Shingletrack$Buffer"
def TX0 : u_T := fun k => match k with
  | 0 => ("Shingletrack$Buffer", "sectors", "LShingletrack$Row;", true)
  | 1 => ("Shingletrack$Buffer", "values", "LShingletrack$Row;", true)
  | _ => ("Shingletrack$Buffer", "sectorsThere", "I", false)
def tyX0 : Nat → FieldType := fun k => match k with
  | 0 => .object "Shingletrack$Row"
  | 1 => .object "Shingletrack$Row"
  | _ => .int
abbrev wsX00 : List Cond := u_ws RX0 TX0 3
theorem nmX0 : ∀ a, a < 3 → ∀ b, b < 3 → a ≠ b → (TX0 a).2.1 ≠ (TX0 b).2.1 := by decide +kernel
theorem tyX0_ok : ∀ k, k < 3 → parseFieldDescriptor (TX0 k).2.2.1 = some (tyX0 k) := by decide +kernel
abbrev cX0_init : ByteArray := prog_2_method_1_code
def yX0_init : MethodName := ⟨RX0, "<init>", "()V"⟩
abbrev cX0_holdsEachOnce : ByteArray := prog_2_method_11_code
def yX0_holdsEachOnce : MethodName := ⟨RX0, "holdsEachOnce", "()Z"⟩
abbrev cX0_indexOf : ByteArray := prog_2_method_12_code
def yX0_indexOf : MethodName := ⟨RX0, "indexOf", "(I)I"⟩
def RX1 : String := "Shingletrack$Cells"
def TX1 : u_T := fun k => match k with
  | _ => ("", "", "", false)
def tyX1 : Nat → FieldType := fun k => match k with
  | _ => .int
abbrev wsX10 : List Cond := u_ws RX1 TX1 0
theorem nmX1 : ∀ a, a < 0 → ∀ b, b < 0 → a ≠ b → (TX1 a).2.1 ≠ (TX1 b).2.1 := by decide +kernel
theorem tyX1_ok : ∀ k, k < 0 → parseFieldDescriptor (TX1 k).2.2.1 = some (tyX1 k) := by decide +kernel
abbrev cX1_ofByte : ByteArray := prog_3_method_2_code
def yX1_ofByte : MethodName := ⟨RX1, "ofByte", "(II)I"⟩
abbrev cX1_dataOf : ByteArray := prog_3_method_3_code
def yX1_dataOf : MethodName := ⟨RX1, "dataOf", "(I)I"⟩
def RX2 : String := "Shingletrack$Channel"
def TX2 : u_T := fun k => match k with
  | 0 => ("Shingletrack$Channel", "samples", "LShingletrack$Row;", true)
  | 1 => ("Shingletrack$Channel", "samplesThere", "I", false)
  | 2 => ("Shingletrack$Channel", "squares", "LShingletrack$Row;", true)
  | 3 => ("Shingletrack$Channel", "numbers", "LShingletrack$Row;", true)
  | 4 => ("Shingletrack$Channel", "nextSquares", "LShingletrack$Row;", true)
  | _ => ("Shingletrack$Channel", "nextNumbers", "LShingletrack$Row;", true)
def tyX2 : Nat → FieldType := fun k => match k with
  | 0 => .object "Shingletrack$Row"
  | 1 => .int
  | 2 => .object "Shingletrack$Row"
  | 3 => .object "Shingletrack$Row"
  | 4 => .object "Shingletrack$Row"
  | _ => .object "Shingletrack$Row"
abbrev wsX20 : List Cond := u_ws RX2 TX2 6
theorem nmX2 : ∀ a, a < 6 → ∀ b, b < 6 → a ≠ b → (TX2 a).2.1 ≠ (TX2 b).2.1 := by decide +kernel
theorem tyX2_ok : ∀ k, k < 6 → parseFieldDescriptor (TX2 k).2.2.1 = some (tyX2 k) := by decide +kernel
abbrev cX2_init : ByteArray := prog_4_method_1_code
def yX2_init : MethodName := ⟨RX2, "<init>", "()V"⟩
abbrev cX2_size : ByteArray := prog_4_method_2_code
def yX2_size : MethodName := ⟨RX2, "size", "()I"⟩
abbrev cX2_add : ByteArray := prog_4_method_3_code
def yX2_add : MethodName := ⟨RX2, "add", "(I)I"⟩
abbrev cX2_bestCells : ByteArray := prog_4_method_4_code
def yX2_bestCells : MethodName := ⟨RX2, "bestCells", "()I"⟩
abbrev cX2_goOn : ByteArray := prog_4_method_5_code
def yX2_goOn : MethodName := ⟨RX2, "goOn", "(J)V"⟩
abbrev cX2_isBetter : ByteArray := prog_4_method_6_code
def yX2_isBetter : MethodName := ⟨RX2, "isBetter", "(JJJJ)Z"⟩
def RX3 : String := "Shingletrack$Platter"
def TX3 : u_T := fun k => match k with
  | 0 => ("Shingletrack$Platter", "bandStore", "LShingletrack$Store;", true)
  | 1 => ("Shingletrack$Platter", "zone", "LShingletrack$Store;", true)
  | 2 => ("Shingletrack$Platter", "ends", "LShingletrack$Row;", true)
  | 3 => ("Shingletrack$Platter", "badPlaces", "LShingletrack$Row;", true)
  | 4 => ("Shingletrack$Platter", "mappedPlaces", "LShingletrack$Row;", true)
  | 5 => ("Shingletrack$Platter", "lostSectors", "LShingletrack$Row;", true)
  | 6 => ("Shingletrack$Platter", "lastSent", "LShingletrack$Row;", true)
  | 7 => ("Shingletrack$Platter", "harmedSectors", "LShingletrack$Row;", true)
  | 8 => ("Shingletrack$Platter", "shakes", "Z", false)
  | 9 => ("Shingletrack$Platter", "wordsWritten", "I", false)
  | 10 => ("Shingletrack$Platter", "placesMended", "I", false)
  | 11 => ("Shingletrack$Platter", "wordsLost", "I", false)
  | _ => ("Shingletrack$Platter", "cleanings", "I", false)
def tyX3 : Nat → FieldType := fun k => match k with
  | 0 => .object "Shingletrack$Store"
  | 1 => .object "Shingletrack$Store"
  | 2 => .object "Shingletrack$Row"
  | 3 => .object "Shingletrack$Row"
  | 4 => .object "Shingletrack$Row"
  | 5 => .object "Shingletrack$Row"
  | 6 => .object "Shingletrack$Row"
  | 7 => .object "Shingletrack$Row"
  | 8 => .boolean
  | 9 => .int
  | 10 => .int
  | 11 => .int
  | _ => .int
abbrev wsX30 : List Cond := u_ws RX3 TX3 13
theorem nmX3 : ∀ a, a < 13 → ∀ b, b < 13 → a ≠ b → (TX3 a).2.1 ≠ (TX3 b).2.1 := by decide +kernel
theorem tyX3_ok : ∀ k, k < 13 → parseFieldDescriptor (TX3 k).2.2.1 = some (tyX3 k) := by decide +kernel
abbrev cX3_init : ByteArray := prog_5_method_1_code
def yX3_init : MethodName := ⟨RX3, "<init>", "()V"⟩
abbrev cX3_endOf : ByteArray := prog_5_method_2_code
def yX3_endOf : MethodName := ⟨RX3, "endOf", "(I)I"⟩
abbrev cX3_newestStore : ByteArray := prog_5_method_4_code
def yX3_newestStore : MethodName := ⟨RX3, "newestStore", "(I)LShingletrack$Store;"⟩
abbrev cX3_keepsWhatWasSent : ByteArray := prog_5_method_10_code
def yX3_keepsWhatWasSent : MethodName := ⟨RX3, "keepsWhatWasSent", "()Z"⟩
abbrev cX3_tellsWhatWasSent : ByteArray := prog_5_method_11_code
def yX3_tellsWhatWasSent : MethodName := ⟨RX3, "tellsWhatWasSent", "(I)Z"⟩
abbrev cX3_endsHold : ByteArray := prog_5_method_12_code
def yX3_endsHold : MethodName := ⟨RX3, "endsHold", "()Z"⟩
def RX4 : String := "Shingletrack$Row"
def TX4 : u_T := fun k => match k with
  | _ => ("Shingletrack$Row", "numbers", "[J", true)
def tyX4 : Nat → FieldType := fun k => match k with
  | _ => .array .long
abbrev wsX40 : List Cond := u_ws RX4 TX4 1
theorem nmX4 : ∀ a, a < 1 → ∀ b, b < 1 → a ≠ b → (TX4 a).2.1 ≠ (TX4 b).2.1 := by decide +kernel
theorem tyX4_ok : ∀ k, k < 1 → parseFieldDescriptor (TX4 k).2.2.1 = some (tyX4 k) := by decide +kernel
abbrev cX4_init : ByteArray := prog_6_method_1_code
def yX4_init : MethodName := ⟨RX4, "<init>", "(I)V"⟩
abbrev cX4_at : ByteArray := prog_6_method_2_code
def yX4_at : MethodName := ⟨RX4, "at", "(I)J"⟩
abbrev cX4_intAt : ByteArray := prog_6_method_3_code
def yX4_intAt : MethodName := ⟨RX4, "intAt", "(I)I"⟩
abbrev cX4_put : ByteArray := prog_6_method_4_code
def yX4_put : MethodName := ⟨RX4, "put", "(IJ)V"⟩
abbrev cX4_fill : ByteArray := prog_6_method_5_code
def yX4_fill : MethodName := ⟨RX4, "fill", "(J)V"⟩
abbrev cX4_isSet : ByteArray := prog_6_method_7_code
def yX4_isSet : MethodName := ⟨RX4, "isSet", "(I)Z"⟩
def RX5 : String := "Shingletrack$Seeks"
def TX5 : u_T := fun k => match k with
  | 0 => ("Shingletrack$Seeks", "sectors", "LShingletrack$Row;", true)
  | 1 => ("Shingletrack$Seeks", "comings", "LShingletrack$Row;", true)
  | 2 => ("Shingletrack$Seeks", "requestsThere", "I", false)
  | 3 => ("Shingletrack$Seeks", "now", "I", false)
  | 4 => ("Shingletrack$Seeks", "armTrack", "I", false)
  | 5 => ("Shingletrack$Seeks", "ticksWaited", "I", false)
  | _ => ("Shingletrack$Seeks", "requestsServed", "I", false)
def tyX5 : Nat → FieldType := fun k => match k with
  | 0 => .object "Shingletrack$Row"
  | 1 => .object "Shingletrack$Row"
  | 2 => .int
  | 3 => .int
  | 4 => .int
  | 5 => .int
  | _ => .int
abbrev wsX50 : List Cond := u_ws RX5 TX5 7
theorem nmX5 : ∀ a, a < 7 → ∀ b, b < 7 → a ≠ b → (TX5 a).2.1 ≠ (TX5 b).2.1 := by decide +kernel
theorem tyX5_ok : ∀ k, k < 7 → parseFieldDescriptor (TX5 k).2.2.1 = some (tyX5 k) := by decide +kernel
abbrev cX5_init : ByteArray := prog_7_method_1_code
def yX5_init : MethodName := ⟨RX5, "<init>", "()V"⟩
def RX6 : String := "Shingletrack$Store"
def TX6 : u_T := fun k => match k with
  | 0 => ("Shingletrack$Store", "words", "LShingletrack$Row;", true)
  | _ => ("Shingletrack$Store", "weaks", "LShingletrack$Row;", true)
def tyX6 : Nat → FieldType := fun k => match k with
  | 0 => .object "Shingletrack$Row"
  | _ => .object "Shingletrack$Row"
abbrev wsX60 : List Cond := u_ws RX6 TX6 2
theorem nmX6 : ∀ a, a < 2 → ∀ b, b < 2 → a ≠ b → (TX6 a).2.1 ≠ (TX6 b).2.1 := by decide +kernel
theorem tyX6_ok : ∀ k, k < 2 → parseFieldDescriptor (TX6 k).2.2.1 = some (tyX6 k) := by decide +kernel
abbrev cX6_init : ByteArray := prog_8_method_1_code
def yX6_init : MethodName := ⟨RX6, "<init>", "()V"⟩
abbrev cX6_has : ByteArray := prog_8_method_2_code
def yX6_has : MethodName := ⟨RX6, "has", "(I)Z"⟩
abbrev cX6_wordOf : ByteArray := prog_8_method_3_code
def yX6_wordOf : MethodName := ⟨RX6, "wordOf", "(I)J"⟩
abbrev cX6_weakOf : ByteArray := prog_8_method_4_code
def yX6_weakOf : MethodName := ⟨RX6, "weakOf", "(I)I"⟩
abbrev cX6_size : ByteArray := prog_8_method_10_code
def yX6_size : MethodName := ⟨RX6, "size", "()I"⟩
def RX7 : String := "Shingletrack$Words"
def TX7 : u_T := fun k => match k with
  | _ => ("", "", "", false)
def tyX7 : Nat → FieldType := fun k => match k with
  | _ => .int
abbrev wsX70 : List Cond := u_ws RX7 TX7 0
theorem nmX7 : ∀ a, a < 0 → ∀ b, b < 0 → a ≠ b → (TX7 a).2.1 ≠ (TX7 b).2.1 := by decide +kernel
theorem tyX7_ok : ∀ k, k < 0 → parseFieldDescriptor (TX7 k).2.2.1 = some (tyX7 k) := by decide +kernel
abbrev cX7_nibble : ByteArray := prog_9_method_2_code
def yX7_nibble : MethodName := ⟨RX7, "nibble", "(JI)I"⟩
abbrev cX7_turned : ByteArray := prog_9_method_3_code
def yX7_turned : MethodName := ⟨RX7, "turned", "(JII)J"⟩
abbrev cX7_of : ByteArray := prog_9_method_4_code
def yX7_of : MethodName := ⟨RX7, "of", "(I)J"⟩
abbrev cX7_valueOf : ByteArray := prog_9_method_5_code
def yX7_valueOf : MethodName := ⟨RX7, "valueOf", "(J)I"⟩
abbrev cX7_differences : ByteArray := prog_9_method_6_code
def yX7_differences : MethodName := ⟨RX7, "differences", "(JJ)I"⟩
abbrev cX7_repaired : ByteArray := prog_9_method_7_code
def yX7_repaired : MethodName := ⟨RX7, "repaired", "(JI)J"⟩
abbrev cX7_sumsOf : ByteArray := prog_9_method_8_code
def yX7_sumsOf : MethodName := ⟨RX7, "sumsOf", "(J)I"⟩
abbrev cX7_filled : ByteArray := prog_9_method_9_code
def yX7_filled : MethodName := ⟨RX7, "filled", "(JII)J"⟩
abbrev cX7_sumsWithout : ByteArray := prog_9_method_10_code
def yX7_sumsWithout : MethodName := ⟨RX7, "sumsWithout", "(II)I"⟩
abbrev cX7_times : ByteArray := prog_9_method_11_code
def yX7_times : MethodName := ⟨RX7, "times", "(II)I"⟩
abbrev cX7_quotient : ByteArray := prog_9_method_12_code
def yX7_quotient : MethodName := ⟨RX7, "quotient", "(II)I"⟩
def RX8 : String := "Shingletrack"
def TX8 : u_T := fun k => match k with
  | 0 => ("Shingletrack", "channel", "LShingletrack$Channel;", true)
  | 1 => ("Shingletrack", "buffer", "LShingletrack$Buffer;", true)
  | 2 => ("Shingletrack", "platter", "LShingletrack$Platter;", true)
  | 3 => ("Shingletrack", "seeks", "LShingletrack$Seeks;", true)
  | 4 => ("Shingletrack", "shocked", "Z", false)
  | 5 => ("Shingletrack", "warmth", "I", false)
  | 6 => ("Shingletrack", "sectorsWritten", "I", false)
  | _ => ("Shingletrack", "readsAnswered", "I", false)
def tyX8 : Nat → FieldType := fun k => match k with
  | 0 => .object "Shingletrack$Channel"
  | 1 => .object "Shingletrack$Buffer"
  | 2 => .object "Shingletrack$Platter"
  | 3 => .object "Shingletrack$Seeks"
  | 4 => .boolean
  | 5 => .int
  | 6 => .int
  | _ => .int
abbrev wsX80 : List Cond := u_ws RX8 TX8 8
theorem nmX8 : ∀ a, a < 8 → ∀ b, b < 8 → a ≠ b → (TX8 a).2.1 ≠ (TX8 b).2.1 := by decide +kernel
theorem tyX8_ok : ∀ k, k < 8 → parseFieldDescriptor (TX8 k).2.2.1 = some (tyX8 k) := by decide +kernel
abbrev cX8_init : ByteArray := prog_1_method_1_code
def yX8_init : MethodName := ⟨RX8, "<init>", "()V"⟩
abbrev cX8_word : ByteArray := prog_1_method_2_code
def yX8_word : MethodName := ⟨RX8, "word", "(I)J"⟩
abbrev cX8_mend : ByteArray := prog_1_method_3_code
def yX8_mend : MethodName := ⟨RX8, "mend", "(JI)I"⟩
abbrev cX8_mended : ByteArray := prog_1_method_4_code
def yX8_mended : MethodName := ⟨RX8, "mended", "(JI)I"⟩
abbrev cX8_encode : ByteArray := prog_1_method_5_code
def yX8_encode : MethodName := ⟨RX8, "encode", "(II)I"⟩
abbrev cX8_decode : ByteArray := prog_1_method_6_code
def yX8_decode : MethodName := ⟨RX8, "decode", "(II)I"⟩
abbrev cX8_sample : ByteArray := prog_1_method_7_code
def yX8_sample : MethodName := ⟨RX8, "sample", "(I)I"⟩
abbrev cX8_guess : ByteArray := prog_1_method_8_code
def yX8_guess : MethodName := ⟨RX8, "guess", "()I"⟩
abbrev cX8_isSound : ByteArray := prog_1_method_40_code
def yX8_isSound : MethodName := ⟨RX8, "isSound", "()Z"⟩
abbrev cX8_checkRange : ByteArray := prog_1_method_41_code
def yX8_checkRange : MethodName := ⟨RX8, "checkRange", "(JJJ)V"⟩
abbrev cX8_repairedOrThrow : ByteArray := prog_1_method_45_code
def yX8_repairedOrThrow : MethodName := ⟨RX8, "repairedOrThrow", "(JI)J"⟩
def RX9 : String := "ShingletrackModel"
def TX9 : u_T := fun k => match k with
  | _ => ("", "", "", false)
def tyX9 : Nat → FieldType := fun k => match k with
  | _ => .int
abbrev wsX90 : List Cond := u_ws RX9 TX9 0
theorem nmX9 : ∀ a, a < 0 → ∀ b, b < 0 → a ≠ b → (TX9 a).2.1 ≠ (TX9 b).2.1 := by decide +kernel
theorem tyX9_ok : ∀ k, k < 0 → parseFieldDescriptor (TX9 k).2.2.1 = some (tyX9 k) := by decide +kernel
def RJx145de : String := "java/io/Serializable"
def TJx145de : u_T := fun k => match k with
  | _ => ("", "", "", false)
def tyJx145de : Nat → FieldType := fun k => match k with
  | _ => .int
abbrev wsJx145de0 : List Cond := u_ws RJx145de TJx145de 0
theorem nmJx145de : ∀ a, a < 0 → ∀ b, b < 0 → a ≠ b → (TJx145de a).2.1 ≠ (TJx145de b).2.1 := by decide +kernel
theorem tyJx145de_ok : ∀ k, k < 0 → parseFieldDescriptor (TJx145de k).2.2.1 = some (tyJx145de k) := by decide +kernel
def RJ6 : String := "java/lang/Integer"
def TJ6 : u_T := fun k => match k with
  | _ => ("", "", "", false)
def tyJ6 : Nat → FieldType := fun k => match k with
  | _ => .int
abbrev wsJ60 : List Cond := u_ws RJ6 TJ6 0
theorem nmJ6 : ∀ a, a < 0 → ∀ b, b < 0 → a ≠ b → (TJ6 a).2.1 ≠ (TJ6 b).2.1 := by decide +kernel
theorem tyJ6_ok : ∀ k, k < 0 → parseFieldDescriptor (TJ6 k).2.2.1 = some (tyJ6 k) := by decide +kernel
abbrev cJ6_bitCount_0f7a4 : ByteArray := prog_16_method_49_code
def yJ6_bitCount_0f7a4 : MethodName := ⟨RJ6, "bitCount", "(I)I"⟩
def RL : String := "ShingletrackLaw"
abbrev cL_cell : ByteArray := method_2_code
def yL_cell : MethodName := ⟨RL, "cell", "([II)I"⟩
abbrev cL_word : ByteArray := method_3_code
def yL_word : MethodName := ⟨RL, "word", "(LShingletrack;I)J"⟩
abbrev cL_mend : ByteArray := method_4_code
def yL_mend : MethodName := ⟨RL, "mend", "(LShingletrack;JI)I"⟩
abbrev cL_mended : ByteArray := method_5_code
def yL_mended : MethodName := ⟨RL, "mended", "(LShingletrack;JI)I"⟩
abbrev cL_encode : ByteArray := method_6_code
def yL_encode : MethodName := ⟨RL, "encode", "(LShingletrack;II)I"⟩
abbrev cL_decode : ByteArray := method_7_code
def yL_decode : MethodName := ⟨RL, "decode", "(LShingletrack;II)I"⟩
abbrev cL_sample : ByteArray := method_8_code
def yL_sample : MethodName := ⟨RL, "sample", "(LShingletrack;I)I"⟩
abbrev cL_in : ByteArray := method_9_code
def yL_in : MethodName := ⟨RL, "in", "([III)I"⟩
abbrev cL_product : ByteArray := method_10_code
def yL_product : MethodName := ⟨RL, "product", "(II)I"⟩
abbrev cL_nibble : ByteArray := method_11_code
def yL_nibble : MethodName := ⟨RL, "nibble", "(JI)I"⟩
abbrev cL_isWord : ByteArray := method_12_code
def yL_isWord : MethodName := ⟨RL, "isWord", "(J)Z"⟩
abbrev cL_law : ByteArray := code
def yL_law : MethodName := ⟨RL, "law", "([I)Z"⟩
def wsX4_init : List Cond := .code yX4_init cX4_init 2 none :: ([.methodLink RX4 1 objectInit, .instanceMethod objectInit, .code objectInit ⟨#[0xb1]⟩ 1 none, .arrayClass .long, .fieldLink RX4 7 "Shingletrack$Row" "numbers" "[J"] ++ wsX40)
def wsX0_init : List Cond := .code yX0_init cX0_init 1 none :: ([.methodLink RX0 3 objectInit, .instanceMethod objectInit, .code objectInit ⟨#[0xb1]⟩ 1 none, .classLink RX0 9 RX4, .instantiable RX4 1, .initialized RX4, .fieldLink RX0 14 "Shingletrack$Buffer" "sectors" "LShingletrack$Row;", .fieldLink RX0 20 "Shingletrack$Buffer" "values" "LShingletrack$Row;", .fieldLink RX0 23 "Shingletrack$Buffer" "sectorsThere" "I", .methodLink RX0 11 yX4_init, .instanceMethod yX4_init, .code yX4_init cX4_init 2 none, .methodLink RX4 1 objectInit, .arrayClass .long, .fieldLink RX4 7 "Shingletrack$Row" "numbers" "[J"] ++ wsX40 ++ wsX00)
def wsX4_at : List Cond := .code yX4_at cX4_at 2 (some .long) :: ([.fieldLink RX4 7 "Shingletrack$Row" "numbers" "[J"] ++ wsX40)
def wsX4_intAt : List Cond := .code yX4_intAt cX4_intAt 2 (some .int) :: ([.methodLink RX4 13 yX4_at, .instanceMethod yX4_at, .selects RX4 yX4_at yX4_at, .initialized RX4, .code yX4_at cX4_at 2 (some .long), .fieldLink RX4 7 "Shingletrack$Row" "numbers" "[J"] ++ wsX40)
def wsX0_indexOf : List Cond := .code yX0_indexOf cX0_indexOf 3 (some .int) :: ([.fieldLink RX0 23 "Shingletrack$Buffer" "sectorsThere" "I", .fieldLink RX0 14 "Shingletrack$Buffer" "sectors" "LShingletrack$Row;", .methodLink RX0 41 yX4_at, .instanceMethod yX4_at, .selects RX4 yX4_at yX4_at, .initialized RX4, .code yX4_at cX4_at 2 (some .long), .fieldLink RX4 7 "Shingletrack$Row" "numbers" "[J"] ++ wsX00 ++ wsX40)
def wsX0_holdsEachOnce : List Cond := .code yX0_holdsEachOnce cX0_holdsEachOnce 2 (some .boolean) :: ([.fieldLink RX0 23 "Shingletrack$Buffer" "sectorsThere" "I", .fieldLink RX0 14 "Shingletrack$Buffer" "sectors" "LShingletrack$Row;", .methodLink RX0 31 yX4_intAt, .instanceMethod yX4_intAt, .selects RX4 yX4_intAt yX4_intAt, .initialized RX4, .code yX4_intAt cX4_intAt 2 (some .int), .methodLink RX4 13 yX4_at, .instanceMethod yX4_at, .selects RX4 yX4_at yX4_at, .code yX4_at cX4_at 2 (some .long), .fieldLink RX4 7 "Shingletrack$Row" "numbers" "[J", .methodLink RX0 27 yX0_indexOf, .instanceMethod yX0_indexOf, .selects RX0 yX0_indexOf yX0_indexOf, .initialized RX0, .code yX0_indexOf cX0_indexOf 3 (some .int), .methodLink RX0 41 yX4_at] ++ wsX00 ++ wsX40)
def wsX1_ofByte : List Cond := .code yX1_ofByte cX1_ofByte 7 (some .int) :: ([])
def wsX1_dataOf : List Cond := .code yX1_dataOf cX1_dataOf 3 (some .int) :: ([])
def wsX2_init : List Cond := .code yX2_init cX2_init 1 none :: ([.methodLink RX2 3 objectInit, .instanceMethod objectInit, .code objectInit ⟨#[0xb1]⟩ 1 none, .classLink RX2 9 RX4, .instantiable RX4 1, .initialized RX4, .fieldLink RX2 14 "Shingletrack$Channel" "samples" "LShingletrack$Row;", .fieldLink RX2 20 "Shingletrack$Channel" "samplesThere" "I", .fieldLink RX2 24 "Shingletrack$Channel" "squares" "LShingletrack$Row;", .fieldLink RX2 27 "Shingletrack$Channel" "numbers" "LShingletrack$Row;", .fieldLink RX2 30 "Shingletrack$Channel" "nextSquares" "LShingletrack$Row;", .fieldLink RX2 33 "Shingletrack$Channel" "nextNumbers" "LShingletrack$Row;", .methodLink RX2 11 yX4_init, .instanceMethod yX4_init, .code yX4_init cX4_init 2 none, .methodLink RX4 1 objectInit, .arrayClass .long, .fieldLink RX4 7 "Shingletrack$Row" "numbers" "[J"] ++ wsX40 ++ wsX20)
def wsX2_size : List Cond := .code yX2_size cX2_size 1 (some .int) :: ([.fieldLink RX2 20 "Shingletrack$Channel" "samplesThere" "I"] ++ wsX20)
def wsX4_put : List Cond := .code yX4_put cX4_put 4 none :: ([.fieldLink RX4 7 "Shingletrack$Row" "numbers" "[J"] ++ wsX40)
def wsX2_add : List Cond := .code yX2_add cX2_add 2 (some .int) :: ([.fieldLink RX2 14 "Shingletrack$Channel" "samples" "LShingletrack$Row;", .fieldLink RX2 20 "Shingletrack$Channel" "samplesThere" "I", .methodLink RX2 36 yX4_put, .instanceMethod yX4_put, .selects RX4 yX4_put yX4_put, .initialized RX4, .code yX4_put cX4_put 4 none, .fieldLink RX4 7 "Shingletrack$Row" "numbers" "[J"] ++ wsX20 ++ wsX40)
def wsX4_fill : List Cond := .code yX4_fill cX4_fill 4 none :: ([.fieldLink RX4 7 "Shingletrack$Row" "numbers" "[J"] ++ wsX40)
def wsX2_isBetter : List Cond := .code yX2_isBetter cX2_isBetter 8 (some .boolean) :: ([])
def wsX2_goOn : List Cond := .code yX2_goOn cX2_goOn 12 none :: ([.fieldLink RX2 30 "Shingletrack$Channel" "nextSquares" "LShingletrack$Row;", .constantLong RX2 40 (1000000), .fieldLink RX2 33 "Shingletrack$Channel" "nextNumbers" "LShingletrack$Row;", .fieldLink RX2 24 "Shingletrack$Channel" "squares" "LShingletrack$Row;", .fieldLink RX2 27 "Shingletrack$Channel" "numbers" "LShingletrack$Row;", .methodLink RX2 42 yX4_fill, .instanceMethod yX4_fill, .selects RX4 yX4_fill yX4_fill, .initialized RX4, .code yX4_fill cX4_fill 4 none, .fieldLink RX4 7 "Shingletrack$Row" "numbers" "[J", .methodLink RX2 46 yX4_at, .instanceMethod yX4_at, .selects RX4 yX4_at yX4_at, .code yX4_at cX4_at 2 (some .long), .methodLink RX2 53 yX2_isBetter, .static yX2_isBetter, .initialized RX2, .code yX2_isBetter cX2_isBetter 8 (some .boolean), .methodLink RX2 36 yX4_put, .instanceMethod yX4_put, .selects RX4 yX4_put yX4_put, .code yX4_put cX4_put 4 none] ++ wsX20 ++ wsX40)
def wsX2_bestCells_r1 : List Cond := [Cond.fieldLink RX2 24 "Shingletrack$Channel" "squares" "LShingletrack$Row;", Cond.constantLong RX2 40 (1000000), Cond.fieldLink RX2 27 "Shingletrack$Channel" "numbers" "LShingletrack$Row;", Cond.fieldLink RX2 20 "Shingletrack$Channel" "samplesThere" "I", Cond.fieldLink RX2 14 "Shingletrack$Channel" "samples" "LShingletrack$Row;", Cond.methodLink RX2 42 yX4_fill, Cond.instanceMethod yX4_fill, Cond.selects RX4 yX4_fill yX4_fill, Cond.initialized RX4, Cond.code yX4_fill cX4_fill 4 none, Cond.fieldLink RX4 7 "Shingletrack$Row" "numbers" "[J", Cond.methodLink RX2 36 yX4_put, Cond.instanceMethod yX4_put, Cond.selects RX4 yX4_put yX4_put, Cond.code yX4_put cX4_put 4 none, Cond.methodLink RX2 46 yX4_at, Cond.instanceMethod yX4_at, Cond.selects RX4 yX4_at yX4_at, Cond.code yX4_at cX4_at 2 (some .long), Cond.methodLink RX2 50 yX2_goOn, Cond.instanceMethod yX2_goOn, Cond.selects RX2 yX2_goOn yX2_goOn, Cond.initialized RX2, Cond.code yX2_goOn cX2_goOn 12 none]
def wsX2_bestCells_r2 : List Cond := [Cond.fieldLink RX2 30 "Shingletrack$Channel" "nextSquares" "LShingletrack$Row;", Cond.fieldLink RX2 33 "Shingletrack$Channel" "nextNumbers" "LShingletrack$Row;", Cond.methodLink RX2 53 yX2_isBetter, Cond.static yX2_isBetter, Cond.code yX2_isBetter cX2_isBetter 8 (some .boolean), Cond.methodLink RX2 57 yX4_intAt, Cond.instanceMethod yX4_intAt, Cond.selects RX4 yX4_intAt yX4_intAt, Cond.code yX4_intAt cX4_intAt 2 (some .int), Cond.methodLink RX4 13 yX4_at]
def wsX2_bestCells : List Cond := .code yX2_bestCells cX2_bestCells 3 (some .int) :: ((wsX2_bestCells_r1 ++ wsX2_bestCells_r2) ++ wsX20 ++ wsX40)
def wsX6_init : List Cond := .code yX6_init cX6_init 1 none :: ([.methodLink RX6 3 objectInit, .instanceMethod objectInit, .code objectInit ⟨#[0xb1]⟩ 1 none, .classLink RX6 9 RX4, .instantiable RX4 1, .initialized RX4, .fieldLink RX6 14 "Shingletrack$Store" "words" "LShingletrack$Row;", .fieldLink RX6 20 "Shingletrack$Store" "weaks" "LShingletrack$Row;", .constantLong RX6 23 (-1), .methodLink RX6 11 yX4_init, .instanceMethod yX4_init, .code yX4_init cX4_init 2 none, .methodLink RX4 1 objectInit, .arrayClass .long, .fieldLink RX4 7 "Shingletrack$Row" "numbers" "[J", .methodLink RX6 25 yX4_fill, .instanceMethod yX4_fill, .selects RX4 yX4_fill yX4_fill, .code yX4_fill cX4_fill 4 none] ++ wsX40 ++ wsX60)
def wsX3_init_r1 : List Cond := [Cond.methodLink RX3 3 objectInit, Cond.instanceMethod objectInit, Cond.code objectInit ⟨#[0xb1]⟩ 1 none, Cond.classLink RX3 9 RX6, Cond.instantiable RX6 2, Cond.initialized RX6, Cond.fieldLink RX3 12 "Shingletrack$Platter" "bandStore" "LShingletrack$Store;", Cond.fieldLink RX3 18 "Shingletrack$Platter" "zone" "LShingletrack$Store;", Cond.classLink RX3 21 RX4, Cond.instantiable RX4 1, Cond.initialized RX4, Cond.fieldLink RX3 26 "Shingletrack$Platter" "ends" "LShingletrack$Row;", Cond.fieldLink RX3 30 "Shingletrack$Platter" "badPlaces" "LShingletrack$Row;", Cond.fieldLink RX3 33 "Shingletrack$Platter" "mappedPlaces" "LShingletrack$Row;", Cond.fieldLink RX3 36 "Shingletrack$Platter" "lostSectors" "LShingletrack$Row;", Cond.fieldLink RX3 39 "Shingletrack$Platter" "lastSent" "LShingletrack$Row;", Cond.fieldLink RX3 42 "Shingletrack$Platter" "harmedSectors" "LShingletrack$Row;", Cond.fieldLink RX3 45 "Shingletrack$Platter" "shakes" "Z", Cond.fieldLink RX3 49 "Shingletrack$Platter" "wordsWritten" "I", Cond.fieldLink RX3 53 "Shingletrack$Platter" "placesMended" "I", Cond.fieldLink RX3 56 "Shingletrack$Platter" "wordsLost" "I", Cond.fieldLink RX3 59 "Shingletrack$Platter" "cleanings" "I", Cond.constantLong RX3 62 (-1), Cond.methodLink RX3 11 yX6_init]
def wsX3_init_r2 : List Cond := [Cond.instanceMethod yX6_init, Cond.code yX6_init cX6_init 1 none, Cond.methodLink RX6 3 objectInit, Cond.classLink RX6 9 RX4, Cond.fieldLink RX6 14 "Shingletrack$Store" "words" "LShingletrack$Row;", Cond.fieldLink RX6 20 "Shingletrack$Store" "weaks" "LShingletrack$Row;", Cond.constantLong RX6 23 (-1), Cond.methodLink RX6 11 yX4_init, Cond.instanceMethod yX4_init, Cond.code yX4_init cX4_init 2 none, Cond.methodLink RX4 1 objectInit, Cond.arrayClass .long, Cond.fieldLink RX4 7 "Shingletrack$Row" "numbers" "[J", Cond.methodLink RX6 25 yX4_fill, Cond.instanceMethod yX4_fill, Cond.selects RX4 yX4_fill yX4_fill, Cond.code yX4_fill cX4_fill 4 none, Cond.methodLink RX3 23 yX4_init, Cond.methodLink RX3 64 yX4_fill]
def wsX3_init : List Cond := .code yX3_init cX3_init 1 none :: ((wsX3_init_r1 ++ wsX3_init_r2) ++ wsX60 ++ wsX30 ++ wsX40)
def wsX3_endOf : List Cond := .code yX3_endOf cX3_endOf 2 (some .int) :: ([.fieldLink RX3 26 "Shingletrack$Platter" "ends" "LShingletrack$Row;", .methodLink RX3 68 yX4_intAt, .instanceMethod yX4_intAt, .selects RX4 yX4_intAt yX4_intAt, .initialized RX4, .code yX4_intAt cX4_intAt 2 (some .int), .methodLink RX4 13 yX4_at, .instanceMethod yX4_at, .selects RX4 yX4_at yX4_at, .code yX4_at cX4_at 2 (some .long), .fieldLink RX4 7 "Shingletrack$Row" "numbers" "[J"] ++ wsX30 ++ wsX40)
def wsX6_has : List Cond := .code yX6_has cX6_has 2 (some .boolean) :: ([.fieldLink RX6 14 "Shingletrack$Store" "words" "LShingletrack$Row;", .constantLong RX6 23 (-1), .methodLink RX6 29 yX4_at, .instanceMethod yX4_at, .selects RX4 yX4_at yX4_at, .initialized RX4, .code yX4_at cX4_at 2 (some .long), .fieldLink RX4 7 "Shingletrack$Row" "numbers" "[J"] ++ wsX60 ++ wsX40)
def wsX3_newestStore : List Cond := .code yX3_newestStore cX3_newestStore 2 (some (.object "Shingletrack$Store")) :: ([.fieldLink RX3 18 "Shingletrack$Platter" "zone" "LShingletrack$Store;", .fieldLink RX3 12 "Shingletrack$Platter" "bandStore" "LShingletrack$Store;", .methodLink RX3 76 yX6_has, .instanceMethod yX6_has, .selects RX6 yX6_has yX6_has, .initialized RX6, .code yX6_has cX6_has 2 (some .boolean), .fieldLink RX6 14 "Shingletrack$Store" "words" "LShingletrack$Row;", .constantLong RX6 23 (-1), .methodLink RX6 29 yX4_at, .instanceMethod yX4_at, .selects RX4 yX4_at yX4_at, .initialized RX4, .code yX4_at cX4_at 2 (some .long), .fieldLink RX4 7 "Shingletrack$Row" "numbers" "[J"] ++ wsX30 ++ wsX60 ++ wsX40)
def wsX4_isSet : List Cond := .code yX4_isSet cX4_isSet 2 (some .boolean) :: ([.methodLink RX4 13 yX4_at, .instanceMethod yX4_at, .selects RX4 yX4_at yX4_at, .initialized RX4, .code yX4_at cX4_at 2 (some .long), .fieldLink RX4 7 "Shingletrack$Row" "numbers" "[J"] ++ wsX40)
def wsX6_wordOf : List Cond := .code yX6_wordOf cX6_wordOf 2 (some .long) :: ([.fieldLink RX6 14 "Shingletrack$Store" "words" "LShingletrack$Row;", .methodLink RX6 29 yX4_at, .instanceMethod yX4_at, .selects RX4 yX4_at yX4_at, .initialized RX4, .code yX4_at cX4_at 2 (some .long), .fieldLink RX4 7 "Shingletrack$Row" "numbers" "[J"] ++ wsX60 ++ wsX40)
def wsX6_weakOf : List Cond := .code yX6_weakOf cX6_weakOf 2 (some .int) :: ([.fieldLink RX6 20 "Shingletrack$Store" "weaks" "LShingletrack$Row;", .methodLink RX6 33 yX4_intAt, .instanceMethod yX4_intAt, .selects RX4 yX4_intAt yX4_intAt, .initialized RX4, .code yX4_intAt cX4_intAt 2 (some .int), .methodLink RX4 13 yX4_at, .instanceMethod yX4_at, .selects RX4 yX4_at yX4_at, .code yX4_at cX4_at 2 (some .long), .fieldLink RX4 7 "Shingletrack$Row" "numbers" "[J"] ++ wsX60 ++ wsX40)
def wsX7_times : List Cond := .code yX7_times cX7_times 4 (some .int) :: ([])
def wsX7_nibble : List Cond := .code yX7_nibble cX7_nibble 3 (some .int) :: ([])
def wsX7_sumsOf : List Cond := .code yX7_sumsOf cX7_sumsOf 6 (some .int) :: ([.methodLink RX7 37 yX7_times, .static yX7_times, .initialized RX7, .code yX7_times cX7_times 4 (some .int), .methodLink RX7 21 yX7_nibble, .static yX7_nibble, .code yX7_nibble cX7_nibble 3 (some .int)])
def wsJ6_bitCount_0f7a4 : List Cond := .code yJ6_bitCount_0f7a4 cJ6_bitCount_0f7a4 1 (some .int) :: ([.constant RJ6 265 (1431655765), .constant RJ6 266 (858993459), .constant RJ6 267 (252645135)])
def wsX7_sumsWithout : List Cond := .code yX7_sumsWithout cX7_sumsWithout 8 (some .int) :: ([.constantLong RX7 46 (3160638497), .methodLink RX7 21 yX7_nibble, .static yX7_nibble, .initialized RX7, .code yX7_nibble cX7_nibble 3 (some .int), .methodLink RX7 37 yX7_times, .static yX7_times, .code yX7_times cX7_times 4 (some .int)])
def wsX7_quotient : List Cond := .code yX7_quotient cX7_quotient 3 (some .int) :: ([.methodLink RX7 37 yX7_times, .static yX7_times, .initialized RX7, .code yX7_times cX7_times 4 (some .int)])
def wsX7_turned : List Cond := .code yX7_turned cX7_turned 4 (some .long) :: ([])
def wsX7_filled : List Cond := .code yX7_filled cX7_filled 10 (some .long) :: ([.methodLink RX7 31 yX7_sumsWithout, .static yX7_sumsWithout, .initialized RX7, .code yX7_sumsWithout cX7_sumsWithout 8 (some .int), .constantLong RX7 46 (3160638497), .methodLink RX7 21 yX7_nibble, .static yX7_nibble, .code yX7_nibble cX7_nibble 3 (some .int), .methodLink RX7 37 yX7_times, .static yX7_times, .code yX7_times cX7_times 4 (some .int), .methodLink RX7 9 yX7_sumsOf, .static yX7_sumsOf, .code yX7_sumsOf cX7_sumsOf 6 (some .int), .methodLink RX7 40 yX7_quotient, .static yX7_quotient, .code yX7_quotient cX7_quotient 3 (some .int), .methodLink RX7 43 yX7_turned, .static yX7_turned, .code yX7_turned cX7_turned 4 (some .long)])
def wsX7_repaired_r1 : List Cond := [Cond.constantLong RX7 35 (-1), Cond.methodLink RX7 9 yX7_sumsOf, Cond.static yX7_sumsOf, Cond.initialized RX7, Cond.code yX7_sumsOf cX7_sumsOf 6 (some .int), Cond.methodLink RX7 37 yX7_times, Cond.static yX7_times, Cond.code yX7_times cX7_times 4 (some .int), Cond.methodLink RX7 21 yX7_nibble, Cond.static yX7_nibble, Cond.code yX7_nibble cX7_nibble 3 (some .int), Cond.methodLink RX7 25 yJ6_bitCount_0f7a4, Cond.static yJ6_bitCount_0f7a4, Cond.initialized RJ6, Cond.code yJ6_bitCount_0f7a4 cJ6_bitCount_0f7a4 1 (some .int), Cond.constant RJ6 265 (1431655765), Cond.constant RJ6 266 (858993459), Cond.constant RJ6 267 (252645135), Cond.methodLink RX7 31 yX7_sumsWithout, Cond.static yX7_sumsWithout, Cond.code yX7_sumsWithout cX7_sumsWithout 8 (some .int), Cond.constantLong RX7 46 (3160638497), Cond.methodLink RX7 15 yX7_filled, Cond.static yX7_filled]
def wsX7_repaired_r2 : List Cond := [Cond.code yX7_filled cX7_filled 10 (some .long), Cond.methodLink RX7 40 yX7_quotient, Cond.static yX7_quotient, Cond.code yX7_quotient cX7_quotient 3 (some .int), Cond.methodLink RX7 43 yX7_turned, Cond.static yX7_turned, Cond.code yX7_turned cX7_turned 4 (some .long)]
def wsX7_repaired : List Cond := .code yX7_repaired cX7_repaired 7 (some .long) :: ((wsX7_repaired_r1 ++ wsX7_repaired_r2))
def wsX7_valueOf : List Cond := .code yX7_valueOf cX7_valueOf 2 (some .int) :: ([.constantLong RX7 19 (65535)])
def wsX3_tellsWhatWasSent_r1 : List Cond := [Cond.constantLong RX3 62 (-1), Cond.fieldLink RX3 39 "Shingletrack$Platter" "lastSent" "LShingletrack$Row;", Cond.methodLink RX3 121 yX3_newestStore, Cond.instanceMethod yX3_newestStore, Cond.selects RX3 yX3_newestStore yX3_newestStore, Cond.initialized RX3, Cond.code yX3_newestStore cX3_newestStore 2 (some (.object "Shingletrack$Store")), Cond.fieldLink RX3 18 "Shingletrack$Platter" "zone" "LShingletrack$Store;", Cond.fieldLink RX3 12 "Shingletrack$Platter" "bandStore" "LShingletrack$Store;", Cond.methodLink RX3 76 yX6_has, Cond.instanceMethod yX6_has, Cond.selects RX6 yX6_has yX6_has, Cond.initialized RX6, Cond.code yX6_has cX6_has 2 (some .boolean), Cond.fieldLink RX6 14 "Shingletrack$Store" "words" "LShingletrack$Row;", Cond.constantLong RX6 23 (-1), Cond.methodLink RX6 29 yX4_at, Cond.instanceMethod yX4_at, Cond.selects RX4 yX4_at yX4_at, Cond.initialized RX4, Cond.code yX4_at cX4_at 2 (some .long), Cond.fieldLink RX4 7 "Shingletrack$Row" "numbers" "[J", Cond.methodLink RX3 125 yX6_wordOf, Cond.instanceMethod yX6_wordOf]
def wsX3_tellsWhatWasSent_r2 : List Cond := [Cond.selects RX6 yX6_wordOf yX6_wordOf, Cond.code yX6_wordOf cX6_wordOf 2 (some .long), Cond.methodLink RX3 128 yX6_weakOf, Cond.instanceMethod yX6_weakOf, Cond.selects RX6 yX6_weakOf yX6_weakOf, Cond.code yX6_weakOf cX6_weakOf 2 (some .int), Cond.fieldLink RX6 20 "Shingletrack$Store" "weaks" "LShingletrack$Row;", Cond.methodLink RX6 33 yX4_intAt, Cond.instanceMethod yX4_intAt, Cond.selects RX4 yX4_intAt yX4_intAt, Cond.code yX4_intAt cX4_intAt 2 (some .int), Cond.methodLink RX4 13 yX4_at, Cond.methodLink RX3 131 yX7_repaired, Cond.static yX7_repaired, Cond.initialized RX7, Cond.code yX7_repaired cX7_repaired 7 (some .long), Cond.constantLong RX7 35 (-1), Cond.methodLink RX7 9 yX7_sumsOf, Cond.static yX7_sumsOf, Cond.code yX7_sumsOf cX7_sumsOf 6 (some .int), Cond.methodLink RX7 37 yX7_times, Cond.static yX7_times, Cond.code yX7_times cX7_times 4 (some .int), Cond.methodLink RX7 21 yX7_nibble]
def wsX3_tellsWhatWasSent_r3 : List Cond := [Cond.static yX7_nibble, Cond.code yX7_nibble cX7_nibble 3 (some .int), Cond.methodLink RX7 25 yJ6_bitCount_0f7a4, Cond.static yJ6_bitCount_0f7a4, Cond.initialized RJ6, Cond.code yJ6_bitCount_0f7a4 cJ6_bitCount_0f7a4 1 (some .int), Cond.constant RJ6 265 (1431655765), Cond.constant RJ6 266 (858993459), Cond.constant RJ6 267 (252645135), Cond.methodLink RX7 31 yX7_sumsWithout, Cond.static yX7_sumsWithout, Cond.code yX7_sumsWithout cX7_sumsWithout 8 (some .int), Cond.constantLong RX7 46 (3160638497), Cond.methodLink RX7 15 yX7_filled, Cond.static yX7_filled, Cond.code yX7_filled cX7_filled 10 (some .long), Cond.methodLink RX7 40 yX7_quotient, Cond.static yX7_quotient, Cond.code yX7_quotient cX7_quotient 3 (some .int), Cond.methodLink RX7 43 yX7_turned, Cond.static yX7_turned, Cond.code yX7_turned cX7_turned 4 (some .long), Cond.methodLink RX3 151 yX7_valueOf, Cond.static yX7_valueOf]
def wsX3_tellsWhatWasSent_r4 : List Cond := [Cond.code yX7_valueOf cX7_valueOf 2 (some .int), Cond.constantLong RX7 19 (65535), Cond.methodLink RX3 145 yX4_at]
def wsX3_tellsWhatWasSent : List Cond := .code yX3_tellsWhatWasSent cX3_tellsWhatWasSent 5 (some .boolean) :: ((wsX3_tellsWhatWasSent_r1 ++ (wsX3_tellsWhatWasSent_r2 ++ (wsX3_tellsWhatWasSent_r3 ++ wsX3_tellsWhatWasSent_r4))) ++ wsX30 ++ wsX60 ++ wsX40)
def wsX3_keepsWhatWasSent_r1 : List Cond := [Cond.fieldLink RX3 39 "Shingletrack$Platter" "lastSent" "LShingletrack$Row;", Cond.constantLong RX3 62 (-1), Cond.fieldLink RX3 36 "Shingletrack$Platter" "lostSectors" "LShingletrack$Row;", Cond.fieldLink RX3 42 "Shingletrack$Platter" "harmedSectors" "LShingletrack$Row;", Cond.methodLink RX3 145 yX4_at, Cond.instanceMethod yX4_at, Cond.selects RX4 yX4_at yX4_at, Cond.initialized RX4, Cond.code yX4_at cX4_at 2 (some .long), Cond.fieldLink RX4 7 "Shingletrack$Row" "numbers" "[J", Cond.methodLink RX3 80 yX4_isSet, Cond.instanceMethod yX4_isSet, Cond.selects RX4 yX4_isSet yX4_isSet, Cond.code yX4_isSet cX4_isSet 2 (some .boolean), Cond.methodLink RX4 13 yX4_at, Cond.methodLink RX3 148 yX3_tellsWhatWasSent, Cond.instanceMethod yX3_tellsWhatWasSent, Cond.selects RX3 yX3_tellsWhatWasSent yX3_tellsWhatWasSent, Cond.initialized RX3, Cond.code yX3_tellsWhatWasSent cX3_tellsWhatWasSent 5 (some .boolean), Cond.methodLink RX3 121 yX3_newestStore, Cond.instanceMethod yX3_newestStore, Cond.selects RX3 yX3_newestStore yX3_newestStore, Cond.code yX3_newestStore cX3_newestStore 2 (some (.object "Shingletrack$Store"))]
def wsX3_keepsWhatWasSent_r2 : List Cond := [Cond.fieldLink RX3 18 "Shingletrack$Platter" "zone" "LShingletrack$Store;", Cond.fieldLink RX3 12 "Shingletrack$Platter" "bandStore" "LShingletrack$Store;", Cond.methodLink RX3 76 yX6_has, Cond.instanceMethod yX6_has, Cond.selects RX6 yX6_has yX6_has, Cond.initialized RX6, Cond.code yX6_has cX6_has 2 (some .boolean), Cond.fieldLink RX6 14 "Shingletrack$Store" "words" "LShingletrack$Row;", Cond.constantLong RX6 23 (-1), Cond.methodLink RX6 29 yX4_at, Cond.methodLink RX3 125 yX6_wordOf, Cond.instanceMethod yX6_wordOf, Cond.selects RX6 yX6_wordOf yX6_wordOf, Cond.code yX6_wordOf cX6_wordOf 2 (some .long), Cond.methodLink RX3 128 yX6_weakOf, Cond.instanceMethod yX6_weakOf, Cond.selects RX6 yX6_weakOf yX6_weakOf, Cond.code yX6_weakOf cX6_weakOf 2 (some .int), Cond.fieldLink RX6 20 "Shingletrack$Store" "weaks" "LShingletrack$Row;", Cond.methodLink RX6 33 yX4_intAt, Cond.instanceMethod yX4_intAt, Cond.selects RX4 yX4_intAt yX4_intAt, Cond.code yX4_intAt cX4_intAt 2 (some .int), Cond.methodLink RX3 131 yX7_repaired]
def wsX3_keepsWhatWasSent_r3 : List Cond := [Cond.static yX7_repaired, Cond.initialized RX7, Cond.code yX7_repaired cX7_repaired 7 (some .long), Cond.constantLong RX7 35 (-1), Cond.methodLink RX7 9 yX7_sumsOf, Cond.static yX7_sumsOf, Cond.code yX7_sumsOf cX7_sumsOf 6 (some .int), Cond.methodLink RX7 37 yX7_times, Cond.static yX7_times, Cond.code yX7_times cX7_times 4 (some .int), Cond.methodLink RX7 21 yX7_nibble, Cond.static yX7_nibble, Cond.code yX7_nibble cX7_nibble 3 (some .int), Cond.methodLink RX7 25 yJ6_bitCount_0f7a4, Cond.static yJ6_bitCount_0f7a4, Cond.initialized RJ6, Cond.code yJ6_bitCount_0f7a4 cJ6_bitCount_0f7a4 1 (some .int), Cond.constant RJ6 265 (1431655765), Cond.constant RJ6 266 (858993459), Cond.constant RJ6 267 (252645135), Cond.methodLink RX7 31 yX7_sumsWithout, Cond.static yX7_sumsWithout, Cond.code yX7_sumsWithout cX7_sumsWithout 8 (some .int), Cond.constantLong RX7 46 (3160638497)]
def wsX3_keepsWhatWasSent_r4 : List Cond := [Cond.methodLink RX7 15 yX7_filled, Cond.static yX7_filled, Cond.code yX7_filled cX7_filled 10 (some .long), Cond.methodLink RX7 40 yX7_quotient, Cond.static yX7_quotient, Cond.code yX7_quotient cX7_quotient 3 (some .int), Cond.methodLink RX7 43 yX7_turned, Cond.static yX7_turned, Cond.code yX7_turned cX7_turned 4 (some .long), Cond.methodLink RX3 151 yX7_valueOf, Cond.static yX7_valueOf, Cond.code yX7_valueOf cX7_valueOf 2 (some .int), Cond.constantLong RX7 19 (65535)]
def wsX3_keepsWhatWasSent : List Cond := .code yX3_keepsWhatWasSent cX3_keepsWhatWasSent 3 (some .boolean) :: ((wsX3_keepsWhatWasSent_r1 ++ (wsX3_keepsWhatWasSent_r2 ++ (wsX3_keepsWhatWasSent_r3 ++ wsX3_keepsWhatWasSent_r4))) ++ wsX30 ++ wsX40 ++ wsX60)
def wsX3_endsHold_r1 : List Cond := [Cond.fieldLink RX3 12 "Shingletrack$Platter" "bandStore" "LShingletrack$Store;", Cond.methodLink RX3 76 yX6_has, Cond.instanceMethod yX6_has, Cond.selects RX6 yX6_has yX6_has, Cond.initialized RX6, Cond.code yX6_has cX6_has 2 (some .boolean), Cond.fieldLink RX6 14 "Shingletrack$Store" "words" "LShingletrack$Row;", Cond.constantLong RX6 23 (-1), Cond.methodLink RX6 29 yX4_at, Cond.instanceMethod yX4_at, Cond.selects RX4 yX4_at yX4_at, Cond.initialized RX4, Cond.code yX4_at cX4_at 2 (some .long), Cond.fieldLink RX4 7 "Shingletrack$Row" "numbers" "[J", Cond.methodLink RX3 155 yX3_endOf, Cond.instanceMethod yX3_endOf, Cond.selects RX3 yX3_endOf yX3_endOf, Cond.initialized RX3, Cond.code yX3_endOf cX3_endOf 2 (some .int), Cond.fieldLink RX3 26 "Shingletrack$Platter" "ends" "LShingletrack$Row;", Cond.methodLink RX3 68 yX4_intAt, Cond.instanceMethod yX4_intAt, Cond.selects RX4 yX4_intAt yX4_intAt, Cond.code yX4_intAt cX4_intAt 2 (some .int)]
def wsX3_endsHold_r2 : List Cond := [Cond.methodLink RX4 13 yX4_at]
def wsX3_endsHold : List Cond := .code yX3_endsHold cX3_endsHold 2 (some .boolean) :: ((wsX3_endsHold_r1 ++ wsX3_endsHold_r2) ++ wsX30 ++ wsX60 ++ wsX40)
def wsX5_init : List Cond := .code yX5_init cX5_init 1 none :: ([.methodLink RX5 3 objectInit, .instanceMethod objectInit, .code objectInit ⟨#[0xb1]⟩ 1 none, .classLink RX5 9 RX4, .instantiable RX4 1, .initialized RX4, .fieldLink RX5 14 "Shingletrack$Seeks" "sectors" "LShingletrack$Row;", .fieldLink RX5 20 "Shingletrack$Seeks" "comings" "LShingletrack$Row;", .fieldLink RX5 23 "Shingletrack$Seeks" "requestsThere" "I", .fieldLink RX5 27 "Shingletrack$Seeks" "now" "I", .fieldLink RX5 30 "Shingletrack$Seeks" "armTrack" "I", .fieldLink RX5 33 "Shingletrack$Seeks" "ticksWaited" "I", .fieldLink RX5 36 "Shingletrack$Seeks" "requestsServed" "I", .methodLink RX5 11 yX4_init, .instanceMethod yX4_init, .code yX4_init cX4_init 2 none, .methodLink RX4 1 objectInit, .arrayClass .long, .fieldLink RX4 7 "Shingletrack$Row" "numbers" "[J"] ++ wsX40 ++ wsX50)
def wsX6_size : List Cond := .code yX6_size cX6_size 3 (some .int) :: ([.methodLink RX6 42 yX6_has, .instanceMethod yX6_has, .selects RX6 yX6_has yX6_has, .initialized RX6, .code yX6_has cX6_has 2 (some .boolean), .fieldLink RX6 14 "Shingletrack$Store" "words" "LShingletrack$Row;", .constantLong RX6 23 (-1), .methodLink RX6 29 yX4_at, .instanceMethod yX4_at, .selects RX4 yX4_at yX4_at, .initialized RX4, .code yX4_at cX4_at 2 (some .long), .fieldLink RX4 7 "Shingletrack$Row" "numbers" "[J"] ++ wsX60 ++ wsX40)
def wsX7_of : List Cond := .code yX7_of cX7_of 1 (some .long) :: ([.methodLink RX7 9 yX7_sumsOf, .static yX7_sumsOf, .initialized RX7, .code yX7_sumsOf cX7_sumsOf 6 (some .int), .methodLink RX7 37 yX7_times, .static yX7_times, .code yX7_times cX7_times 4 (some .int), .methodLink RX7 21 yX7_nibble, .static yX7_nibble, .code yX7_nibble cX7_nibble 3 (some .int), .methodLink RX7 15 yX7_filled, .static yX7_filled, .code yX7_filled cX7_filled 10 (some .long), .methodLink RX7 31 yX7_sumsWithout, .static yX7_sumsWithout, .code yX7_sumsWithout cX7_sumsWithout 8 (some .int), .constantLong RX7 46 (3160638497), .methodLink RX7 40 yX7_quotient, .static yX7_quotient, .code yX7_quotient cX7_quotient 3 (some .int), .methodLink RX7 43 yX7_turned, .static yX7_turned, .code yX7_turned cX7_turned 4 (some .long)])
def wsX7_differences : List Cond := .code yX7_differences cX7_differences 6 (some .int) :: ([.methodLink RX7 21 yX7_nibble, .static yX7_nibble, .initialized RX7, .code yX7_nibble cX7_nibble 3 (some .int)])
def wsX8_init_r1 : List Cond := [Cond.methodLink RX8 3 objectInit, Cond.instanceMethod objectInit, Cond.code objectInit ⟨#[0xb1]⟩ 1 none, Cond.classLink RX8 9 RX2, Cond.instantiable RX2 6, Cond.initialized RX2, Cond.fieldLink RX8 12 "Shingletrack" "channel" "LShingletrack$Channel;", Cond.classLink RX8 16 RX0, Cond.instantiable RX0 3, Cond.initialized RX0, Cond.fieldLink RX8 19 "Shingletrack" "buffer" "LShingletrack$Buffer;", Cond.classLink RX8 23 RX3, Cond.instantiable RX3 13, Cond.initialized RX3, Cond.fieldLink RX8 26 "Shingletrack" "platter" "LShingletrack$Platter;", Cond.classLink RX8 30 RX5, Cond.instantiable RX5 7, Cond.initialized RX5, Cond.fieldLink RX8 33 "Shingletrack" "seeks" "LShingletrack$Seeks;", Cond.fieldLink RX8 37 "Shingletrack" "shocked" "Z", Cond.fieldLink RX8 41 "Shingletrack" "warmth" "I", Cond.fieldLink RX8 45 "Shingletrack" "sectorsWritten" "I", Cond.fieldLink RX8 48 "Shingletrack" "readsAnswered" "I", Cond.instanceMethod yX2_init]
def wsX8_init_r2 : List Cond := [Cond.code yX2_init cX2_init 1 none, Cond.methodLink RX2 3 objectInit, Cond.classLink RX2 9 RX4, Cond.instantiable RX4 1, Cond.initialized RX4, Cond.fieldLink RX2 14 "Shingletrack$Channel" "samples" "LShingletrack$Row;", Cond.fieldLink RX2 20 "Shingletrack$Channel" "samplesThere" "I", Cond.fieldLink RX2 24 "Shingletrack$Channel" "squares" "LShingletrack$Row;", Cond.fieldLink RX2 27 "Shingletrack$Channel" "numbers" "LShingletrack$Row;", Cond.fieldLink RX2 30 "Shingletrack$Channel" "nextSquares" "LShingletrack$Row;", Cond.fieldLink RX2 33 "Shingletrack$Channel" "nextNumbers" "LShingletrack$Row;", Cond.methodLink RX2 11 yX4_init, Cond.instanceMethod yX4_init, Cond.code yX4_init cX4_init 2 none, Cond.methodLink RX4 1 objectInit, Cond.arrayClass .long, Cond.fieldLink RX4 7 "Shingletrack$Row" "numbers" "[J", Cond.instanceMethod yX0_init, Cond.code yX0_init cX0_init 1 none, Cond.methodLink RX0 3 objectInit, Cond.classLink RX0 9 RX4, Cond.fieldLink RX0 14 "Shingletrack$Buffer" "sectors" "LShingletrack$Row;", Cond.fieldLink RX0 20 "Shingletrack$Buffer" "values" "LShingletrack$Row;", Cond.fieldLink RX0 23 "Shingletrack$Buffer" "sectorsThere" "I"]
def wsX8_init_r3 : List Cond := [Cond.methodLink RX0 11 yX4_init, Cond.methodLink RX8 25 yX3_init, Cond.instanceMethod yX3_init, Cond.code yX3_init cX3_init 1 none, Cond.methodLink RX3 3 objectInit, Cond.classLink RX3 9 RX6, Cond.instantiable RX6 2, Cond.initialized RX6, Cond.fieldLink RX3 12 "Shingletrack$Platter" "bandStore" "LShingletrack$Store;", Cond.fieldLink RX3 18 "Shingletrack$Platter" "zone" "LShingletrack$Store;", Cond.classLink RX3 21 RX4, Cond.fieldLink RX3 26 "Shingletrack$Platter" "ends" "LShingletrack$Row;", Cond.fieldLink RX3 30 "Shingletrack$Platter" "badPlaces" "LShingletrack$Row;", Cond.fieldLink RX3 33 "Shingletrack$Platter" "mappedPlaces" "LShingletrack$Row;", Cond.fieldLink RX3 36 "Shingletrack$Platter" "lostSectors" "LShingletrack$Row;", Cond.fieldLink RX3 39 "Shingletrack$Platter" "lastSent" "LShingletrack$Row;", Cond.fieldLink RX3 42 "Shingletrack$Platter" "harmedSectors" "LShingletrack$Row;", Cond.fieldLink RX3 45 "Shingletrack$Platter" "shakes" "Z", Cond.fieldLink RX3 49 "Shingletrack$Platter" "wordsWritten" "I", Cond.fieldLink RX3 53 "Shingletrack$Platter" "placesMended" "I", Cond.fieldLink RX3 56 "Shingletrack$Platter" "wordsLost" "I", Cond.fieldLink RX3 59 "Shingletrack$Platter" "cleanings" "I", Cond.constantLong RX3 62 (-1), Cond.methodLink RX3 11 yX6_init]
def wsX8_init_r4 : List Cond := [Cond.instanceMethod yX6_init, Cond.code yX6_init cX6_init 1 none, Cond.methodLink RX6 3 objectInit, Cond.classLink RX6 9 RX4, Cond.fieldLink RX6 14 "Shingletrack$Store" "words" "LShingletrack$Row;", Cond.fieldLink RX6 20 "Shingletrack$Store" "weaks" "LShingletrack$Row;", Cond.constantLong RX6 23 (-1), Cond.methodLink RX6 11 yX4_init, Cond.methodLink RX6 25 yX4_fill, Cond.instanceMethod yX4_fill, Cond.selects RX4 yX4_fill yX4_fill, Cond.code yX4_fill cX4_fill 4 none, Cond.methodLink RX3 23 yX4_init, Cond.methodLink RX3 64 yX4_fill, Cond.instanceMethod yX5_init, Cond.code yX5_init cX5_init 1 none, Cond.methodLink RX5 3 objectInit, Cond.classLink RX5 9 RX4, Cond.fieldLink RX5 14 "Shingletrack$Seeks" "sectors" "LShingletrack$Row;", Cond.fieldLink RX5 20 "Shingletrack$Seeks" "comings" "LShingletrack$Row;", Cond.fieldLink RX5 23 "Shingletrack$Seeks" "requestsThere" "I", Cond.fieldLink RX5 27 "Shingletrack$Seeks" "now" "I", Cond.fieldLink RX5 30 "Shingletrack$Seeks" "armTrack" "I", Cond.fieldLink RX5 33 "Shingletrack$Seeks" "ticksWaited" "I"]
def wsX8_init_r5 : List Cond := [Cond.fieldLink RX5 36 "Shingletrack$Seeks" "requestsServed" "I", Cond.methodLink RX5 11 yX4_init]
def wsX8_init : List Cond := .code yX8_init cX8_init 1 none :: ((wsX8_init_r1 ++ (wsX8_init_r2 ++ (wsX8_init_r3 ++ (wsX8_init_r4 ++ wsX8_init_r5)))) ++ wsX20 ++ wsX80 ++ wsX00 ++ wsX30 ++ wsX50 ++ wsX40 ++ wsX60)
def wsX8_checkRange : List Cond := .code yX8_checkRange cX8_checkRange 6 none :: ([.classLink RX8 238 "java/lang/IllegalArgumentException", .initialized "java/lang/IllegalArgumentException"] ++ (vx_at0 RX8 240 "java/lang/IllegalArgumentException" ["java/lang/RuntimeException", "java/lang/Exception"]).filter goodWord)
def wsX8_word_r1 : List Cond := [Cond.constantLong RX8 51 (65535), Cond.methodLink RX8 53 yX8_checkRange, Cond.static yX8_checkRange, Cond.initialized RX8, Cond.code yX8_checkRange cX8_checkRange 6 none, Cond.classLink RX8 238 "java/lang/IllegalArgumentException", Cond.initialized "java/lang/IllegalArgumentException", Cond.methodLink RX8 57 yX7_of, Cond.static yX7_of, Cond.initialized RX7, Cond.code yX7_of cX7_of 1 (some .long), Cond.methodLink RX7 9 yX7_sumsOf, Cond.static yX7_sumsOf, Cond.code yX7_sumsOf cX7_sumsOf 6 (some .int), Cond.methodLink RX7 37 yX7_times, Cond.static yX7_times, Cond.code yX7_times cX7_times 4 (some .int), Cond.methodLink RX7 21 yX7_nibble, Cond.static yX7_nibble, Cond.code yX7_nibble cX7_nibble 3 (some .int), Cond.methodLink RX7 15 yX7_filled, Cond.static yX7_filled, Cond.code yX7_filled cX7_filled 10 (some .long), Cond.methodLink RX7 31 yX7_sumsWithout]
def wsX8_word_r2 : List Cond := [Cond.static yX7_sumsWithout, Cond.code yX7_sumsWithout cX7_sumsWithout 8 (some .int), Cond.constantLong RX7 46 (3160638497), Cond.methodLink RX7 40 yX7_quotient, Cond.static yX7_quotient, Cond.code yX7_quotient cX7_quotient 3 (some .int), Cond.methodLink RX7 43 yX7_turned, Cond.static yX7_turned, Cond.code yX7_turned cX7_turned 4 (some .long)]
def wsX8_word : List Cond := .code yX8_word cX8_word 2 (some .long) :: ((wsX8_word_r1 ++ wsX8_word_r2) ++ (vx_at0 RX8 240 "java/lang/IllegalArgumentException" ["java/lang/RuntimeException", "java/lang/Exception"]).filter goodWord)
def wsX8_repairedOrThrow_r1 : List Cond := [Cond.classLink RX8 87 "java/util/NoSuchElementException", Cond.initialized "java/util/NoSuchElementException", Cond.constantLong RX8 298 (4294967295), Cond.constantLong RX8 75 (255), Cond.constantLong RX8 303 (-1), Cond.methodLink RX8 53 yX8_checkRange, Cond.static yX8_checkRange, Cond.initialized RX8, Cond.code yX8_checkRange cX8_checkRange 6 none, Cond.classLink RX8 238 "java/lang/IllegalArgumentException", Cond.initialized "java/lang/IllegalArgumentException", Cond.methodLink RX8 300 yX7_repaired, Cond.static yX7_repaired, Cond.initialized RX7, Cond.code yX7_repaired cX7_repaired 7 (some .long), Cond.constantLong RX7 35 (-1), Cond.methodLink RX7 9 yX7_sumsOf, Cond.static yX7_sumsOf, Cond.code yX7_sumsOf cX7_sumsOf 6 (some .int), Cond.methodLink RX7 37 yX7_times, Cond.static yX7_times, Cond.code yX7_times cX7_times 4 (some .int), Cond.methodLink RX7 21 yX7_nibble, Cond.static yX7_nibble]
def wsX8_repairedOrThrow_r2 : List Cond := [Cond.code yX7_nibble cX7_nibble 3 (some .int), Cond.methodLink RX7 25 yJ6_bitCount_0f7a4, Cond.static yJ6_bitCount_0f7a4, Cond.initialized RJ6, Cond.code yJ6_bitCount_0f7a4 cJ6_bitCount_0f7a4 1 (some .int), Cond.constant RJ6 265 (1431655765), Cond.constant RJ6 266 (858993459), Cond.constant RJ6 267 (252645135), Cond.methodLink RX7 31 yX7_sumsWithout, Cond.static yX7_sumsWithout, Cond.code yX7_sumsWithout cX7_sumsWithout 8 (some .int), Cond.constantLong RX7 46 (3160638497), Cond.methodLink RX7 15 yX7_filled, Cond.static yX7_filled, Cond.code yX7_filled cX7_filled 10 (some .long), Cond.methodLink RX7 40 yX7_quotient, Cond.static yX7_quotient, Cond.code yX7_quotient cX7_quotient 3 (some .int), Cond.methodLink RX7 43 yX7_turned, Cond.static yX7_turned, Cond.code yX7_turned cX7_turned 4 (some .long)]
def wsX8_repairedOrThrow : List Cond := .code yX8_repairedOrThrow cX8_repairedOrThrow 5 (some .long) :: ((wsX8_repairedOrThrow_r1 ++ wsX8_repairedOrThrow_r2) ++ (vx_at0 RX8 89 "java/util/NoSuchElementException" ["java/lang/RuntimeException", "java/lang/Exception"]).filter goodWord ++ (vx_at0 RX8 240 "java/lang/IllegalArgumentException" ["java/lang/RuntimeException", "java/lang/Exception"]).filter goodWord)
def wsX8_mend_r1 : List Cond := [Cond.methodLink RX8 63 yX8_repairedOrThrow, Cond.static yX8_repairedOrThrow, Cond.initialized RX8, Cond.code yX8_repairedOrThrow cX8_repairedOrThrow 5 (some .long), Cond.classLink RX8 87 "java/util/NoSuchElementException", Cond.initialized "java/util/NoSuchElementException", Cond.constantLong RX8 298 (4294967295), Cond.constantLong RX8 75 (255), Cond.constantLong RX8 303 (-1), Cond.methodLink RX8 53 yX8_checkRange, Cond.static yX8_checkRange, Cond.code yX8_checkRange cX8_checkRange 6 none, Cond.classLink RX8 238 "java/lang/IllegalArgumentException", Cond.initialized "java/lang/IllegalArgumentException", Cond.methodLink RX8 300 yX7_repaired, Cond.static yX7_repaired, Cond.initialized RX7, Cond.code yX7_repaired cX7_repaired 7 (some .long), Cond.constantLong RX7 35 (-1), Cond.methodLink RX7 9 yX7_sumsOf, Cond.static yX7_sumsOf, Cond.code yX7_sumsOf cX7_sumsOf 6 (some .int), Cond.methodLink RX7 37 yX7_times, Cond.static yX7_times]
def wsX8_mend_r2 : List Cond := [Cond.code yX7_times cX7_times 4 (some .int), Cond.methodLink RX7 21 yX7_nibble, Cond.static yX7_nibble, Cond.code yX7_nibble cX7_nibble 3 (some .int), Cond.methodLink RX7 25 yJ6_bitCount_0f7a4, Cond.static yJ6_bitCount_0f7a4, Cond.initialized RJ6, Cond.code yJ6_bitCount_0f7a4 cJ6_bitCount_0f7a4 1 (some .int), Cond.constant RJ6 265 (1431655765), Cond.constant RJ6 266 (858993459), Cond.constant RJ6 267 (252645135), Cond.methodLink RX7 31 yX7_sumsWithout, Cond.static yX7_sumsWithout, Cond.code yX7_sumsWithout cX7_sumsWithout 8 (some .int), Cond.constantLong RX7 46 (3160638497), Cond.methodLink RX7 15 yX7_filled, Cond.static yX7_filled, Cond.code yX7_filled cX7_filled 10 (some .long), Cond.methodLink RX7 40 yX7_quotient, Cond.static yX7_quotient, Cond.code yX7_quotient cX7_quotient 3 (some .int), Cond.methodLink RX7 43 yX7_turned, Cond.static yX7_turned, Cond.code yX7_turned cX7_turned 4 (some .long)]
def wsX8_mend_r3 : List Cond := [Cond.methodLink RX8 67 yX7_valueOf, Cond.static yX7_valueOf, Cond.code yX7_valueOf cX7_valueOf 2 (some .int), Cond.constantLong RX7 19 (65535)]
def wsX8_mend : List Cond := .code yX8_mend cX8_mend 4 (some .int) :: ((wsX8_mend_r1 ++ (wsX8_mend_r2 ++ wsX8_mend_r3)) ++ (vx_at0 RX8 89 "java/util/NoSuchElementException" ["java/lang/RuntimeException", "java/lang/Exception"]).filter goodWord ++ (vx_at0 RX8 240 "java/lang/IllegalArgumentException" ["java/lang/RuntimeException", "java/lang/Exception"]).filter goodWord)
def wsX8_mended_r1 : List Cond := [Cond.methodLink RX8 63 yX8_repairedOrThrow, Cond.static yX8_repairedOrThrow, Cond.initialized RX8, Cond.code yX8_repairedOrThrow cX8_repairedOrThrow 5 (some .long), Cond.classLink RX8 87 "java/util/NoSuchElementException", Cond.initialized "java/util/NoSuchElementException", Cond.constantLong RX8 298 (4294967295), Cond.constantLong RX8 75 (255), Cond.constantLong RX8 303 (-1), Cond.methodLink RX8 53 yX8_checkRange, Cond.static yX8_checkRange, Cond.code yX8_checkRange cX8_checkRange 6 none, Cond.classLink RX8 238 "java/lang/IllegalArgumentException", Cond.initialized "java/lang/IllegalArgumentException", Cond.methodLink RX8 300 yX7_repaired, Cond.static yX7_repaired, Cond.initialized RX7, Cond.code yX7_repaired cX7_repaired 7 (some .long), Cond.constantLong RX7 35 (-1), Cond.methodLink RX7 9 yX7_sumsOf, Cond.static yX7_sumsOf, Cond.code yX7_sumsOf cX7_sumsOf 6 (some .int), Cond.methodLink RX7 37 yX7_times, Cond.static yX7_times]
def wsX8_mended_r2 : List Cond := [Cond.code yX7_times cX7_times 4 (some .int), Cond.methodLink RX7 21 yX7_nibble, Cond.static yX7_nibble, Cond.code yX7_nibble cX7_nibble 3 (some .int), Cond.methodLink RX7 25 yJ6_bitCount_0f7a4, Cond.static yJ6_bitCount_0f7a4, Cond.initialized RJ6, Cond.code yJ6_bitCount_0f7a4 cJ6_bitCount_0f7a4 1 (some .int), Cond.constant RJ6 265 (1431655765), Cond.constant RJ6 266 (858993459), Cond.constant RJ6 267 (252645135), Cond.methodLink RX7 31 yX7_sumsWithout, Cond.static yX7_sumsWithout, Cond.code yX7_sumsWithout cX7_sumsWithout 8 (some .int), Cond.constantLong RX7 46 (3160638497), Cond.methodLink RX7 15 yX7_filled, Cond.static yX7_filled, Cond.code yX7_filled cX7_filled 10 (some .long), Cond.methodLink RX7 40 yX7_quotient, Cond.static yX7_quotient, Cond.code yX7_quotient cX7_quotient 3 (some .int), Cond.methodLink RX7 43 yX7_turned, Cond.static yX7_turned, Cond.code yX7_turned cX7_turned 4 (some .long)]
def wsX8_mended_r3 : List Cond := [Cond.methodLink RX8 71 yX7_differences, Cond.static yX7_differences, Cond.code yX7_differences cX7_differences 6 (some .int)]
def wsX8_mended : List Cond := .code yX8_mended cX8_mended 4 (some .int) :: ((wsX8_mended_r1 ++ (wsX8_mended_r2 ++ wsX8_mended_r3)) ++ (vx_at0 RX8 89 "java/util/NoSuchElementException" ["java/lang/RuntimeException", "java/lang/Exception"]).filter goodWord ++ (vx_at0 RX8 240 "java/lang/IllegalArgumentException" ["java/lang/RuntimeException", "java/lang/Exception"]).filter goodWord)
def wsX8_encode : List Cond := .code yX8_encode cX8_encode 3 (some .int) :: ([.constantLong RX8 75 (255), .methodLink RX8 53 yX8_checkRange, .static yX8_checkRange, .initialized RX8, .code yX8_checkRange cX8_checkRange 6 none, .classLink RX8 238 "java/lang/IllegalArgumentException", .initialized "java/lang/IllegalArgumentException", .methodLink RX8 77 yX1_ofByte, .static yX1_ofByte, .initialized RX1, .code yX1_ofByte cX1_ofByte 7 (some .int)] ++ (vx_at0 RX8 240 "java/lang/IllegalArgumentException" ["java/lang/RuntimeException", "java/lang/Exception"]).filter goodWord)
def wsX8_decode : List Cond := .code yX8_decode cX8_decode 4 (some .int) :: ([.classLink RX8 87 "java/util/NoSuchElementException", .initialized "java/util/NoSuchElementException", .constantLong RX8 51 (65535), .methodLink RX8 53 yX8_checkRange, .static yX8_checkRange, .initialized RX8, .code yX8_checkRange cX8_checkRange 6 none, .classLink RX8 238 "java/lang/IllegalArgumentException", .initialized "java/lang/IllegalArgumentException", .methodLink RX8 83 yX1_dataOf, .static yX1_dataOf, .initialized RX1, .code yX1_dataOf cX1_dataOf 3 (some .int), .methodLink RX8 77 yX1_ofByte, .static yX1_ofByte, .code yX1_ofByte cX1_ofByte 7 (some .int)] ++ (vx_at0 RX8 89 "java/util/NoSuchElementException" ["java/lang/RuntimeException", "java/lang/Exception"]).filter goodWord ++ (vx_at0 RX8 240 "java/lang/IllegalArgumentException" ["java/lang/RuntimeException", "java/lang/Exception"]).filter goodWord)
def wsX8_sample_r1 : List Cond := [Cond.classLink RX8 98 "java/lang/IllegalStateException", Cond.initialized "java/lang/IllegalStateException", Cond.constantLong RX8 90 (-40), Cond.constantLong RX8 92 (40), Cond.fieldLink RX8 12 "Shingletrack" "channel" "LShingletrack$Channel;", Cond.methodLink RX8 53 yX8_checkRange, Cond.static yX8_checkRange, Cond.initialized RX8, Cond.code yX8_checkRange cX8_checkRange 6 none, Cond.classLink RX8 238 "java/lang/IllegalArgumentException", Cond.initialized "java/lang/IllegalArgumentException", Cond.methodLink RX8 94 yX2_size, Cond.instanceMethod yX2_size, Cond.selects RX2 yX2_size yX2_size, Cond.initialized RX2, Cond.code yX2_size cX2_size 1 (some .int), Cond.fieldLink RX2 20 "Shingletrack$Channel" "samplesThere" "I", Cond.methodLink RX8 101 yX2_add, Cond.instanceMethod yX2_add, Cond.selects RX2 yX2_add yX2_add, Cond.code yX2_add cX2_add 2 (some .int), Cond.fieldLink RX2 14 "Shingletrack$Channel" "samples" "LShingletrack$Row;", Cond.methodLink RX2 36 yX4_put, Cond.instanceMethod yX4_put]
def wsX8_sample_r2 : List Cond := [Cond.selects RX4 yX4_put yX4_put, Cond.initialized RX4, Cond.code yX4_put cX4_put 4 none, Cond.fieldLink RX4 7 "Shingletrack$Row" "numbers" "[J"]
def wsX8_sample : List Cond := .code yX8_sample cX8_sample 2 (some .int) :: ((wsX8_sample_r1 ++ wsX8_sample_r2) ++ wsX80 ++ wsX20 ++ wsX40 ++ (vx_at0 RX8 100 "java/lang/IllegalStateException" ["java/lang/RuntimeException", "java/lang/Exception"]).filter goodWord ++ (vx_at0 RX8 240 "java/lang/IllegalArgumentException" ["java/lang/RuntimeException", "java/lang/Exception"]).filter goodWord)
def wsX8_guess_r1 : List Cond := [Cond.fieldLink RX8 12 "Shingletrack" "channel" "LShingletrack$Channel;", Cond.methodLink RX8 104 yX2_bestCells, Cond.instanceMethod yX2_bestCells, Cond.selects RX2 yX2_bestCells yX2_bestCells, Cond.initialized RX2, Cond.code yX2_bestCells cX2_bestCells 3 (some .int), Cond.fieldLink RX2 24 "Shingletrack$Channel" "squares" "LShingletrack$Row;", Cond.constantLong RX2 40 (1000000), Cond.fieldLink RX2 27 "Shingletrack$Channel" "numbers" "LShingletrack$Row;", Cond.fieldLink RX2 20 "Shingletrack$Channel" "samplesThere" "I", Cond.fieldLink RX2 14 "Shingletrack$Channel" "samples" "LShingletrack$Row;", Cond.methodLink RX2 42 yX4_fill, Cond.instanceMethod yX4_fill, Cond.selects RX4 yX4_fill yX4_fill, Cond.initialized RX4, Cond.code yX4_fill cX4_fill 4 none, Cond.fieldLink RX4 7 "Shingletrack$Row" "numbers" "[J", Cond.methodLink RX2 36 yX4_put, Cond.instanceMethod yX4_put, Cond.selects RX4 yX4_put yX4_put, Cond.code yX4_put cX4_put 4 none, Cond.methodLink RX2 46 yX4_at, Cond.instanceMethod yX4_at, Cond.selects RX4 yX4_at yX4_at]
def wsX8_guess_r2 : List Cond := [Cond.code yX4_at cX4_at 2 (some .long), Cond.methodLink RX2 50 yX2_goOn, Cond.instanceMethod yX2_goOn, Cond.selects RX2 yX2_goOn yX2_goOn, Cond.code yX2_goOn cX2_goOn 12 none, Cond.fieldLink RX2 30 "Shingletrack$Channel" "nextSquares" "LShingletrack$Row;", Cond.fieldLink RX2 33 "Shingletrack$Channel" "nextNumbers" "LShingletrack$Row;", Cond.methodLink RX2 53 yX2_isBetter, Cond.static yX2_isBetter, Cond.code yX2_isBetter cX2_isBetter 8 (some .boolean), Cond.methodLink RX2 57 yX4_intAt, Cond.instanceMethod yX4_intAt, Cond.selects RX4 yX4_intAt yX4_intAt, Cond.code yX4_intAt cX4_intAt 2 (some .int), Cond.methodLink RX4 13 yX4_at]
def wsX8_guess : List Cond := .code yX8_guess cX8_guess 1 (some .int) :: ((wsX8_guess_r1 ++ wsX8_guess_r2) ++ wsX80 ++ wsX20 ++ wsX40)
def wsX8_isSound_r1 : List Cond := [Cond.fieldLink RX8 26 "Shingletrack" "platter" "LShingletrack$Platter;", Cond.fieldLink RX8 19 "Shingletrack" "buffer" "LShingletrack$Buffer;", Cond.methodLink RX8 286 yX3_keepsWhatWasSent, Cond.instanceMethod yX3_keepsWhatWasSent, Cond.selects RX3 yX3_keepsWhatWasSent yX3_keepsWhatWasSent, Cond.initialized RX3, Cond.code yX3_keepsWhatWasSent cX3_keepsWhatWasSent 3 (some .boolean), Cond.fieldLink RX3 39 "Shingletrack$Platter" "lastSent" "LShingletrack$Row;", Cond.constantLong RX3 62 (-1), Cond.fieldLink RX3 36 "Shingletrack$Platter" "lostSectors" "LShingletrack$Row;", Cond.fieldLink RX3 42 "Shingletrack$Platter" "harmedSectors" "LShingletrack$Row;", Cond.methodLink RX3 145 yX4_at, Cond.instanceMethod yX4_at, Cond.selects RX4 yX4_at yX4_at, Cond.initialized RX4, Cond.code yX4_at cX4_at 2 (some .long), Cond.fieldLink RX4 7 "Shingletrack$Row" "numbers" "[J", Cond.methodLink RX3 80 yX4_isSet, Cond.instanceMethod yX4_isSet, Cond.selects RX4 yX4_isSet yX4_isSet, Cond.code yX4_isSet cX4_isSet 2 (some .boolean), Cond.methodLink RX4 13 yX4_at, Cond.methodLink RX3 148 yX3_tellsWhatWasSent, Cond.instanceMethod yX3_tellsWhatWasSent]
def wsX8_isSound_r2 : List Cond := [Cond.selects RX3 yX3_tellsWhatWasSent yX3_tellsWhatWasSent, Cond.code yX3_tellsWhatWasSent cX3_tellsWhatWasSent 5 (some .boolean), Cond.methodLink RX3 121 yX3_newestStore, Cond.instanceMethod yX3_newestStore, Cond.selects RX3 yX3_newestStore yX3_newestStore, Cond.code yX3_newestStore cX3_newestStore 2 (some (.object "Shingletrack$Store")), Cond.fieldLink RX3 18 "Shingletrack$Platter" "zone" "LShingletrack$Store;", Cond.fieldLink RX3 12 "Shingletrack$Platter" "bandStore" "LShingletrack$Store;", Cond.methodLink RX3 76 yX6_has, Cond.instanceMethod yX6_has, Cond.selects RX6 yX6_has yX6_has, Cond.initialized RX6, Cond.code yX6_has cX6_has 2 (some .boolean), Cond.fieldLink RX6 14 "Shingletrack$Store" "words" "LShingletrack$Row;", Cond.constantLong RX6 23 (-1), Cond.methodLink RX6 29 yX4_at, Cond.methodLink RX3 125 yX6_wordOf, Cond.instanceMethod yX6_wordOf, Cond.selects RX6 yX6_wordOf yX6_wordOf, Cond.code yX6_wordOf cX6_wordOf 2 (some .long), Cond.methodLink RX3 128 yX6_weakOf, Cond.instanceMethod yX6_weakOf, Cond.selects RX6 yX6_weakOf yX6_weakOf, Cond.code yX6_weakOf cX6_weakOf 2 (some .int)]
def wsX8_isSound_r3 : List Cond := [Cond.fieldLink RX6 20 "Shingletrack$Store" "weaks" "LShingletrack$Row;", Cond.methodLink RX6 33 yX4_intAt, Cond.instanceMethod yX4_intAt, Cond.selects RX4 yX4_intAt yX4_intAt, Cond.code yX4_intAt cX4_intAt 2 (some .int), Cond.methodLink RX3 131 yX7_repaired, Cond.static yX7_repaired, Cond.initialized RX7, Cond.code yX7_repaired cX7_repaired 7 (some .long), Cond.constantLong RX7 35 (-1), Cond.methodLink RX7 9 yX7_sumsOf, Cond.static yX7_sumsOf, Cond.code yX7_sumsOf cX7_sumsOf 6 (some .int), Cond.methodLink RX7 37 yX7_times, Cond.static yX7_times, Cond.code yX7_times cX7_times 4 (some .int), Cond.methodLink RX7 21 yX7_nibble, Cond.static yX7_nibble, Cond.code yX7_nibble cX7_nibble 3 (some .int), Cond.methodLink RX7 25 yJ6_bitCount_0f7a4, Cond.static yJ6_bitCount_0f7a4, Cond.initialized RJ6, Cond.code yJ6_bitCount_0f7a4 cJ6_bitCount_0f7a4 1 (some .int), Cond.constant RJ6 265 (1431655765)]
def wsX8_isSound_r4 : List Cond := [Cond.constant RJ6 266 (858993459), Cond.constant RJ6 267 (252645135), Cond.methodLink RX7 31 yX7_sumsWithout, Cond.static yX7_sumsWithout, Cond.code yX7_sumsWithout cX7_sumsWithout 8 (some .int), Cond.constantLong RX7 46 (3160638497), Cond.methodLink RX7 15 yX7_filled, Cond.static yX7_filled, Cond.code yX7_filled cX7_filled 10 (some .long), Cond.methodLink RX7 40 yX7_quotient, Cond.static yX7_quotient, Cond.code yX7_quotient cX7_quotient 3 (some .int), Cond.methodLink RX7 43 yX7_turned, Cond.static yX7_turned, Cond.code yX7_turned cX7_turned 4 (some .long), Cond.methodLink RX3 151 yX7_valueOf, Cond.static yX7_valueOf, Cond.code yX7_valueOf cX7_valueOf 2 (some .int), Cond.constantLong RX7 19 (65535), Cond.methodLink RX8 289 yX3_endsHold, Cond.instanceMethod yX3_endsHold, Cond.selects RX3 yX3_endsHold yX3_endsHold, Cond.code yX3_endsHold cX3_endsHold 2 (some .boolean), Cond.methodLink RX3 155 yX3_endOf]
def wsX8_isSound_r5 : List Cond := [Cond.instanceMethod yX3_endOf, Cond.selects RX3 yX3_endOf yX3_endOf, Cond.code yX3_endOf cX3_endOf 2 (some .int), Cond.fieldLink RX3 26 "Shingletrack$Platter" "ends" "LShingletrack$Row;", Cond.methodLink RX3 68 yX4_intAt, Cond.methodLink RX8 292 yX0_holdsEachOnce, Cond.instanceMethod yX0_holdsEachOnce, Cond.selects RX0 yX0_holdsEachOnce yX0_holdsEachOnce, Cond.initialized RX0, Cond.code yX0_holdsEachOnce cX0_holdsEachOnce 2 (some .boolean), Cond.fieldLink RX0 23 "Shingletrack$Buffer" "sectorsThere" "I", Cond.fieldLink RX0 14 "Shingletrack$Buffer" "sectors" "LShingletrack$Row;", Cond.methodLink RX0 31 yX4_intAt, Cond.methodLink RX0 27 yX0_indexOf, Cond.instanceMethod yX0_indexOf, Cond.selects RX0 yX0_indexOf yX0_indexOf, Cond.code yX0_indexOf cX0_indexOf 3 (some .int), Cond.methodLink RX0 41 yX4_at, Cond.methodLink RX8 155 yX6_size, Cond.instanceMethod yX6_size, Cond.selects RX6 yX6_size yX6_size, Cond.code yX6_size cX6_size 3 (some .int), Cond.methodLink RX6 42 yX6_has]
def wsX8_isSound : List Cond := .code yX8_isSound cX8_isSound 1 (some .boolean) :: ((wsX8_isSound_r1 ++ (wsX8_isSound_r2 ++ (wsX8_isSound_r3 ++ (wsX8_isSound_r4 ++ wsX8_isSound_r5)))) ++ wsX80 ++ wsX30 ++ wsX40 ++ wsX60 ++ wsX00)
def wsL_cell : List Cond := .code yL_cell cL_cell 3 (some .int) :: ([.constant RL 7 (69069), .constant RL 8 (1103515245)])
def wsL_word_r1 : List Cond := [Cond.classLink RL 15 "java/lang/IllegalArgumentException", Cond.constantLong RL 17 (-900001), Cond.methodLink RL 9 yX8_word, Cond.instanceMethod yX8_word, Cond.selects RX8 yX8_word yX8_word, Cond.initialized RX8, Cond.code yX8_word cX8_word 2 (some .long), Cond.constantLong RX8 51 (65535), Cond.methodLink RX8 53 yX8_checkRange, Cond.static yX8_checkRange, Cond.code yX8_checkRange cX8_checkRange 6 none, Cond.classLink RX8 238 "java/lang/IllegalArgumentException", Cond.initialized "java/lang/IllegalArgumentException", Cond.methodLink RX8 57 yX7_of, Cond.static yX7_of, Cond.initialized RX7, Cond.code yX7_of cX7_of 1 (some .long), Cond.methodLink RX7 9 yX7_sumsOf, Cond.static yX7_sumsOf, Cond.code yX7_sumsOf cX7_sumsOf 6 (some .int), Cond.methodLink RX7 37 yX7_times, Cond.static yX7_times, Cond.code yX7_times cX7_times 4 (some .int), Cond.methodLink RX7 21 yX7_nibble]
def wsL_word_r2 : List Cond := [Cond.static yX7_nibble, Cond.code yX7_nibble cX7_nibble 3 (some .int), Cond.methodLink RX7 15 yX7_filled, Cond.static yX7_filled, Cond.code yX7_filled cX7_filled 10 (some .long), Cond.methodLink RX7 31 yX7_sumsWithout, Cond.static yX7_sumsWithout, Cond.code yX7_sumsWithout cX7_sumsWithout 8 (some .int), Cond.constantLong RX7 46 (3160638497), Cond.methodLink RX7 40 yX7_quotient, Cond.static yX7_quotient, Cond.code yX7_quotient cX7_quotient 3 (some .int), Cond.methodLink RX7 43 yX7_turned, Cond.static yX7_turned, Cond.code yX7_turned cX7_turned 4 (some .long)]
def wsL_word : List Cond := .codeWith yL_word cL_word 3 (some .long) [(0, 5, 6, 15)] :: ((wsL_word_r1 ++ wsL_word_r2) ++ (vx_at0 RX8 240 "java/lang/IllegalArgumentException" ["java/lang/RuntimeException", "java/lang/Exception"]).filter goodWord)
def wsL_mend_r1 : List Cond := [Cond.classLink RL 15 "java/lang/IllegalArgumentException", Cond.classLink RL 24 "java/util/NoSuchElementException", Cond.constant RL 23 (-900001), Cond.constant RL 26 (-900002), Cond.methodLink RL 19 yX8_mend, Cond.instanceMethod yX8_mend, Cond.selects RX8 yX8_mend yX8_mend, Cond.initialized RX8, Cond.code yX8_mend cX8_mend 4 (some .int), Cond.methodLink RX8 63 yX8_repairedOrThrow, Cond.static yX8_repairedOrThrow, Cond.code yX8_repairedOrThrow cX8_repairedOrThrow 5 (some .long), Cond.classLink RX8 87 "java/util/NoSuchElementException", Cond.initialized "java/util/NoSuchElementException", Cond.constantLong RX8 298 (4294967295), Cond.constantLong RX8 75 (255), Cond.constantLong RX8 303 (-1), Cond.methodLink RX8 53 yX8_checkRange, Cond.static yX8_checkRange, Cond.code yX8_checkRange cX8_checkRange 6 none, Cond.classLink RX8 238 "java/lang/IllegalArgumentException", Cond.initialized "java/lang/IllegalArgumentException", Cond.methodLink RX8 300 yX7_repaired, Cond.static yX7_repaired]
def wsL_mend_r2 : List Cond := [Cond.initialized RX7, Cond.code yX7_repaired cX7_repaired 7 (some .long), Cond.constantLong RX7 35 (-1), Cond.methodLink RX7 9 yX7_sumsOf, Cond.static yX7_sumsOf, Cond.code yX7_sumsOf cX7_sumsOf 6 (some .int), Cond.methodLink RX7 37 yX7_times, Cond.static yX7_times, Cond.code yX7_times cX7_times 4 (some .int), Cond.methodLink RX7 21 yX7_nibble, Cond.static yX7_nibble, Cond.code yX7_nibble cX7_nibble 3 (some .int), Cond.methodLink RX7 25 yJ6_bitCount_0f7a4, Cond.static yJ6_bitCount_0f7a4, Cond.initialized RJ6, Cond.code yJ6_bitCount_0f7a4 cJ6_bitCount_0f7a4 1 (some .int), Cond.constant RJ6 265 (1431655765), Cond.constant RJ6 266 (858993459), Cond.constant RJ6 267 (252645135), Cond.methodLink RX7 31 yX7_sumsWithout, Cond.static yX7_sumsWithout, Cond.code yX7_sumsWithout cX7_sumsWithout 8 (some .int), Cond.constantLong RX7 46 (3160638497), Cond.methodLink RX7 15 yX7_filled]
def wsL_mend_r3 : List Cond := [Cond.static yX7_filled, Cond.code yX7_filled cX7_filled 10 (some .long), Cond.methodLink RX7 40 yX7_quotient, Cond.static yX7_quotient, Cond.code yX7_quotient cX7_quotient 3 (some .int), Cond.methodLink RX7 43 yX7_turned, Cond.static yX7_turned, Cond.code yX7_turned cX7_turned 4 (some .long), Cond.methodLink RX8 67 yX7_valueOf, Cond.static yX7_valueOf, Cond.code yX7_valueOf cX7_valueOf 2 (some .int), Cond.constantLong RX7 19 (65535)]
def wsL_mend : List Cond := .codeWith yL_mend cL_mend 5 (some .int) [(0, 6, 7, 15), (0, 6, 12, 24)] :: ((wsL_mend_r1 ++ (wsL_mend_r2 ++ wsL_mend_r3)) ++ (vx_at0 RX8 89 "java/util/NoSuchElementException" ["java/lang/RuntimeException", "java/lang/Exception"]).filter goodWord ++ (vx_at0 RX8 240 "java/lang/IllegalArgumentException" ["java/lang/RuntimeException", "java/lang/Exception"]).filter goodWord)
def wsL_mended_r1 : List Cond := [Cond.classLink RL 15 "java/lang/IllegalArgumentException", Cond.classLink RL 24 "java/util/NoSuchElementException", Cond.constant RL 23 (-900001), Cond.constant RL 26 (-900002), Cond.methodLink RL 27 yX8_mended, Cond.instanceMethod yX8_mended, Cond.selects RX8 yX8_mended yX8_mended, Cond.initialized RX8, Cond.code yX8_mended cX8_mended 4 (some .int), Cond.methodLink RX8 63 yX8_repairedOrThrow, Cond.static yX8_repairedOrThrow, Cond.code yX8_repairedOrThrow cX8_repairedOrThrow 5 (some .long), Cond.classLink RX8 87 "java/util/NoSuchElementException", Cond.initialized "java/util/NoSuchElementException", Cond.constantLong RX8 298 (4294967295), Cond.constantLong RX8 75 (255), Cond.constantLong RX8 303 (-1), Cond.methodLink RX8 53 yX8_checkRange, Cond.static yX8_checkRange, Cond.code yX8_checkRange cX8_checkRange 6 none, Cond.classLink RX8 238 "java/lang/IllegalArgumentException", Cond.initialized "java/lang/IllegalArgumentException", Cond.methodLink RX8 300 yX7_repaired, Cond.static yX7_repaired]
def wsL_mended_r2 : List Cond := [Cond.initialized RX7, Cond.code yX7_repaired cX7_repaired 7 (some .long), Cond.constantLong RX7 35 (-1), Cond.methodLink RX7 9 yX7_sumsOf, Cond.static yX7_sumsOf, Cond.code yX7_sumsOf cX7_sumsOf 6 (some .int), Cond.methodLink RX7 37 yX7_times, Cond.static yX7_times, Cond.code yX7_times cX7_times 4 (some .int), Cond.methodLink RX7 21 yX7_nibble, Cond.static yX7_nibble, Cond.code yX7_nibble cX7_nibble 3 (some .int), Cond.methodLink RX7 25 yJ6_bitCount_0f7a4, Cond.static yJ6_bitCount_0f7a4, Cond.initialized RJ6, Cond.code yJ6_bitCount_0f7a4 cJ6_bitCount_0f7a4 1 (some .int), Cond.constant RJ6 265 (1431655765), Cond.constant RJ6 266 (858993459), Cond.constant RJ6 267 (252645135), Cond.methodLink RX7 31 yX7_sumsWithout, Cond.static yX7_sumsWithout, Cond.code yX7_sumsWithout cX7_sumsWithout 8 (some .int), Cond.constantLong RX7 46 (3160638497), Cond.methodLink RX7 15 yX7_filled]
def wsL_mended_r3 : List Cond := [Cond.static yX7_filled, Cond.code yX7_filled cX7_filled 10 (some .long), Cond.methodLink RX7 40 yX7_quotient, Cond.static yX7_quotient, Cond.code yX7_quotient cX7_quotient 3 (some .int), Cond.methodLink RX7 43 yX7_turned, Cond.static yX7_turned, Cond.code yX7_turned cX7_turned 4 (some .long), Cond.methodLink RX8 71 yX7_differences, Cond.static yX7_differences, Cond.code yX7_differences cX7_differences 6 (some .int)]
def wsL_mended : List Cond := .codeWith yL_mended cL_mended 5 (some .int) [(0, 6, 7, 15), (0, 6, 12, 24)] :: ((wsL_mended_r1 ++ (wsL_mended_r2 ++ wsL_mended_r3)) ++ (vx_at0 RX8 89 "java/util/NoSuchElementException" ["java/lang/RuntimeException", "java/lang/Exception"]).filter goodWord ++ (vx_at0 RX8 240 "java/lang/IllegalArgumentException" ["java/lang/RuntimeException", "java/lang/Exception"]).filter goodWord)
def wsL_encode : List Cond := .codeWith yL_encode cL_encode 4 (some .int) [(0, 6, 7, 15)] :: ([.classLink RL 15 "java/lang/IllegalArgumentException", .constant RL 23 (-900001), .methodLink RL 30 yX8_encode, .instanceMethod yX8_encode, .selects RX8 yX8_encode yX8_encode, .initialized RX8, .code yX8_encode cX8_encode 3 (some .int), .constantLong RX8 75 (255), .methodLink RX8 53 yX8_checkRange, .static yX8_checkRange, .code yX8_checkRange cX8_checkRange 6 none, .classLink RX8 238 "java/lang/IllegalArgumentException", .initialized "java/lang/IllegalArgumentException", .methodLink RX8 77 yX1_ofByte, .static yX1_ofByte, .initialized RX1, .code yX1_ofByte cX1_ofByte 7 (some .int)] ++ (vx_at0 RX8 240 "java/lang/IllegalArgumentException" ["java/lang/RuntimeException", "java/lang/Exception"]).filter goodWord)
def wsL_decode : List Cond := .codeWith yL_decode cL_decode 4 (some .int) [(0, 6, 7, 15), (0, 6, 11, 24)] :: ([.classLink RL 15 "java/lang/IllegalArgumentException", .classLink RL 24 "java/util/NoSuchElementException", .constant RL 23 (-900001), .constant RL 26 (-900002), .methodLink RL 34 yX8_decode, .instanceMethod yX8_decode, .selects RX8 yX8_decode yX8_decode, .initialized RX8, .code yX8_decode cX8_decode 4 (some .int), .classLink RX8 87 "java/util/NoSuchElementException", .initialized "java/util/NoSuchElementException", .constantLong RX8 51 (65535), .methodLink RX8 53 yX8_checkRange, .static yX8_checkRange, .code yX8_checkRange cX8_checkRange 6 none, .classLink RX8 238 "java/lang/IllegalArgumentException", .initialized "java/lang/IllegalArgumentException", .methodLink RX8 83 yX1_dataOf, .static yX1_dataOf, .initialized RX1, .code yX1_dataOf cX1_dataOf 3 (some .int), .methodLink RX8 77 yX1_ofByte, .static yX1_ofByte, .code yX1_ofByte cX1_ofByte 7 (some .int)] ++ (vx_at0 RX8 89 "java/util/NoSuchElementException" ["java/lang/RuntimeException", "java/lang/Exception"]).filter goodWord ++ (vx_at0 RX8 240 "java/lang/IllegalArgumentException" ["java/lang/RuntimeException", "java/lang/Exception"]).filter goodWord)
def wsL_sample_r1 : List Cond := [Cond.classLink RL 15 "java/lang/IllegalArgumentException", Cond.classLink RL 41 "java/lang/IllegalStateException", Cond.constant RL 23 (-900001), Cond.constant RL 26 (-900002), Cond.methodLink RL 37 yX8_sample, Cond.instanceMethod yX8_sample, Cond.selects RX8 yX8_sample yX8_sample, Cond.initialized RX8, Cond.code yX8_sample cX8_sample 2 (some .int), Cond.classLink RX8 98 "java/lang/IllegalStateException", Cond.initialized "java/lang/IllegalStateException", Cond.constantLong RX8 90 (-40), Cond.constantLong RX8 92 (40), Cond.fieldLink RX8 12 "Shingletrack" "channel" "LShingletrack$Channel;", Cond.methodLink RX8 53 yX8_checkRange, Cond.static yX8_checkRange, Cond.code yX8_checkRange cX8_checkRange 6 none, Cond.classLink RX8 238 "java/lang/IllegalArgumentException", Cond.initialized "java/lang/IllegalArgumentException", Cond.methodLink RX8 94 yX2_size, Cond.instanceMethod yX2_size, Cond.selects RX2 yX2_size yX2_size, Cond.initialized RX2, Cond.code yX2_size cX2_size 1 (some .int)]
def wsL_sample_r2 : List Cond := [Cond.fieldLink RX2 20 "Shingletrack$Channel" "samplesThere" "I", Cond.methodLink RX8 101 yX2_add, Cond.instanceMethod yX2_add, Cond.selects RX2 yX2_add yX2_add, Cond.code yX2_add cX2_add 2 (some .int), Cond.fieldLink RX2 14 "Shingletrack$Channel" "samples" "LShingletrack$Row;", Cond.methodLink RX2 36 yX4_put, Cond.instanceMethod yX4_put, Cond.selects RX4 yX4_put yX4_put, Cond.initialized RX4, Cond.code yX4_put cX4_put 4 none, Cond.fieldLink RX4 7 "Shingletrack$Row" "numbers" "[J"]
def wsL_sample : List Cond := .codeWith yL_sample cL_sample 3 (some .int) [(0, 5, 6, 15), (0, 5, 10, 41)] :: ((wsL_sample_r1 ++ wsL_sample_r2) ++ wsX80 ++ wsX20 ++ wsX40 ++ (vx_at0 RX8 100 "java/lang/IllegalStateException" ["java/lang/RuntimeException", "java/lang/Exception"]).filter goodWord ++ (vx_at0 RX8 240 "java/lang/IllegalArgumentException" ["java/lang/RuntimeException", "java/lang/Exception"]).filter goodWord)
def wsL_in : List Cond := .code yL_in cL_in 3 (some .int) :: ([.constant RL 49 (2147483647), .methodLink RL 43 yL_cell, .static yL_cell, .initialized RL, .code yL_cell cL_cell 3 (some .int), .constant RL 7 (69069), .constant RL 8 (1103515245)])
def wsL_product : List Cond := .code yL_product cL_product 5 (some .int) :: ([])
def wsL_nibble : List Cond := .code yL_nibble cL_nibble 3 (some .int) :: ([.constantLong RL 50 (15)])
def wsL_isWord : List Cond := .code yL_isWord cL_isWord 8 (some .boolean) :: ([.methodLink RL 52 yL_nibble, .static yL_nibble, .initialized RL, .code yL_nibble cL_nibble 3 (some .int), .constantLong RL 50 (15), .methodLink RL 55 yL_product, .static yL_product, .code yL_product cL_product 5 (some .int)])
def wsL_law0_r1 : List Cond := [Cond.classLink RL 10 RX8, Cond.instantiable RX8 8, Cond.initialized RX8, Cond.constant RL 59 (65536), Cond.constantLong RL 17 (-900001), Cond.constantLong RL 63 (-1), Cond.constant RL 23 (-900001), Cond.constantLong RL 78 (65535), Cond.constantLong RL 80 (5), Cond.constant RL 26 (-900002), Cond.arrayClass .int, Cond.constant RL 49 (2147483647), Cond.methodLink RL 58 yX8_init, Cond.instanceMethod yX8_init, Cond.code yX8_init cX8_init 1 none, Cond.methodLink RX8 3 objectInit, Cond.instanceMethod objectInit, Cond.code objectInit ⟨#[0xb1]⟩ 1 none, Cond.classLink RX8 9 RX2, Cond.instantiable RX2 6, Cond.initialized RX2, Cond.fieldLink RX8 12 "Shingletrack" "channel" "LShingletrack$Channel;", Cond.classLink RX8 16 RX0, Cond.instantiable RX0 3]
def wsL_law0_r2 : List Cond := [Cond.initialized RX0, Cond.fieldLink RX8 19 "Shingletrack" "buffer" "LShingletrack$Buffer;", Cond.classLink RX8 23 RX3, Cond.instantiable RX3 13, Cond.initialized RX3, Cond.fieldLink RX8 26 "Shingletrack" "platter" "LShingletrack$Platter;", Cond.classLink RX8 30 RX5, Cond.instantiable RX5 7, Cond.initialized RX5, Cond.fieldLink RX8 33 "Shingletrack" "seeks" "LShingletrack$Seeks;", Cond.fieldLink RX8 37 "Shingletrack" "shocked" "Z", Cond.fieldLink RX8 41 "Shingletrack" "warmth" "I", Cond.fieldLink RX8 45 "Shingletrack" "sectorsWritten" "I", Cond.fieldLink RX8 48 "Shingletrack" "readsAnswered" "I", Cond.instanceMethod yX2_init, Cond.code yX2_init cX2_init 1 none, Cond.methodLink RX2 3 objectInit, Cond.classLink RX2 9 RX4, Cond.instantiable RX4 1, Cond.initialized RX4, Cond.fieldLink RX2 14 "Shingletrack$Channel" "samples" "LShingletrack$Row;", Cond.fieldLink RX2 20 "Shingletrack$Channel" "samplesThere" "I", Cond.fieldLink RX2 24 "Shingletrack$Channel" "squares" "LShingletrack$Row;", Cond.fieldLink RX2 27 "Shingletrack$Channel" "numbers" "LShingletrack$Row;"]
def wsL_law0_r3 : List Cond := [Cond.fieldLink RX2 30 "Shingletrack$Channel" "nextSquares" "LShingletrack$Row;", Cond.fieldLink RX2 33 "Shingletrack$Channel" "nextNumbers" "LShingletrack$Row;", Cond.methodLink RX2 11 yX4_init, Cond.instanceMethod yX4_init, Cond.code yX4_init cX4_init 2 none, Cond.methodLink RX4 1 objectInit, Cond.arrayClass .long, Cond.fieldLink RX4 7 "Shingletrack$Row" "numbers" "[J", Cond.instanceMethod yX0_init, Cond.code yX0_init cX0_init 1 none, Cond.methodLink RX0 3 objectInit, Cond.classLink RX0 9 RX4, Cond.fieldLink RX0 14 "Shingletrack$Buffer" "sectors" "LShingletrack$Row;", Cond.fieldLink RX0 20 "Shingletrack$Buffer" "values" "LShingletrack$Row;", Cond.fieldLink RX0 23 "Shingletrack$Buffer" "sectorsThere" "I", Cond.methodLink RX0 11 yX4_init, Cond.methodLink RX8 25 yX3_init, Cond.instanceMethod yX3_init, Cond.code yX3_init cX3_init 1 none, Cond.methodLink RX3 3 objectInit, Cond.classLink RX3 9 RX6, Cond.instantiable RX6 2, Cond.initialized RX6, Cond.fieldLink RX3 12 "Shingletrack$Platter" "bandStore" "LShingletrack$Store;"]
def wsL_law0_r4 : List Cond := [Cond.fieldLink RX3 18 "Shingletrack$Platter" "zone" "LShingletrack$Store;", Cond.classLink RX3 21 RX4, Cond.fieldLink RX3 26 "Shingletrack$Platter" "ends" "LShingletrack$Row;", Cond.fieldLink RX3 30 "Shingletrack$Platter" "badPlaces" "LShingletrack$Row;", Cond.fieldLink RX3 33 "Shingletrack$Platter" "mappedPlaces" "LShingletrack$Row;", Cond.fieldLink RX3 36 "Shingletrack$Platter" "lostSectors" "LShingletrack$Row;", Cond.fieldLink RX3 39 "Shingletrack$Platter" "lastSent" "LShingletrack$Row;", Cond.fieldLink RX3 42 "Shingletrack$Platter" "harmedSectors" "LShingletrack$Row;", Cond.fieldLink RX3 45 "Shingletrack$Platter" "shakes" "Z", Cond.fieldLink RX3 49 "Shingletrack$Platter" "wordsWritten" "I", Cond.fieldLink RX3 53 "Shingletrack$Platter" "placesMended" "I", Cond.fieldLink RX3 56 "Shingletrack$Platter" "wordsLost" "I", Cond.fieldLink RX3 59 "Shingletrack$Platter" "cleanings" "I", Cond.constantLong RX3 62 (-1), Cond.methodLink RX3 11 yX6_init, Cond.instanceMethod yX6_init, Cond.code yX6_init cX6_init 1 none, Cond.methodLink RX6 3 objectInit, Cond.classLink RX6 9 RX4, Cond.fieldLink RX6 14 "Shingletrack$Store" "words" "LShingletrack$Row;", Cond.fieldLink RX6 20 "Shingletrack$Store" "weaks" "LShingletrack$Row;", Cond.constantLong RX6 23 (-1), Cond.methodLink RX6 11 yX4_init, Cond.methodLink RX6 25 yX4_fill]
def wsL_law0_r5 : List Cond := [Cond.instanceMethod yX4_fill, Cond.selects RX4 yX4_fill yX4_fill, Cond.code yX4_fill cX4_fill 4 none, Cond.methodLink RX3 23 yX4_init, Cond.methodLink RX3 64 yX4_fill, Cond.instanceMethod yX5_init, Cond.code yX5_init cX5_init 1 none, Cond.methodLink RX5 3 objectInit, Cond.classLink RX5 9 RX4, Cond.fieldLink RX5 14 "Shingletrack$Seeks" "sectors" "LShingletrack$Row;", Cond.fieldLink RX5 20 "Shingletrack$Seeks" "comings" "LShingletrack$Row;", Cond.fieldLink RX5 23 "Shingletrack$Seeks" "requestsThere" "I", Cond.fieldLink RX5 27 "Shingletrack$Seeks" "now" "I", Cond.fieldLink RX5 30 "Shingletrack$Seeks" "armTrack" "I", Cond.fieldLink RX5 33 "Shingletrack$Seeks" "ticksWaited" "I", Cond.fieldLink RX5 36 "Shingletrack$Seeks" "requestsServed" "I", Cond.methodLink RX5 11 yX4_init, Cond.methodLink RL 60 yL_word, Cond.static yL_word, Cond.initialized RL, Cond.codeWith yL_word cL_word 3 (some .long) [(0, 5, 6, 15)], Cond.classLink RL 15 "java/lang/IllegalArgumentException", Cond.methodLink RL 9 yX8_word, Cond.instanceMethod yX8_word]
def wsL_law0_r6 : List Cond := [Cond.selects RX8 yX8_word yX8_word, Cond.code yX8_word cX8_word 2 (some .long), Cond.constantLong RX8 51 (65535), Cond.methodLink RX8 53 yX8_checkRange, Cond.static yX8_checkRange, Cond.code yX8_checkRange cX8_checkRange 6 none, Cond.classLink RX8 238 "java/lang/IllegalArgumentException", Cond.initialized "java/lang/IllegalArgumentException", Cond.methodLink RX8 57 yX7_of, Cond.static yX7_of, Cond.initialized RX7, Cond.code yX7_of cX7_of 1 (some .long), Cond.methodLink RX7 9 yX7_sumsOf, Cond.static yX7_sumsOf, Cond.code yX7_sumsOf cX7_sumsOf 6 (some .int), Cond.methodLink RX7 37 yX7_times, Cond.static yX7_times, Cond.code yX7_times cX7_times 4 (some .int), Cond.methodLink RX7 21 yX7_nibble, Cond.static yX7_nibble, Cond.code yX7_nibble cX7_nibble 3 (some .int), Cond.methodLink RX7 15 yX7_filled, Cond.static yX7_filled, Cond.code yX7_filled cX7_filled 10 (some .long)]
def wsL_law0_r7 : List Cond := [Cond.methodLink RX7 31 yX7_sumsWithout, Cond.static yX7_sumsWithout, Cond.code yX7_sumsWithout cX7_sumsWithout 8 (some .int), Cond.constantLong RX7 46 (3160638497), Cond.methodLink RX7 40 yX7_quotient, Cond.static yX7_quotient, Cond.code yX7_quotient cX7_quotient 3 (some .int), Cond.methodLink RX7 43 yX7_turned, Cond.static yX7_turned, Cond.code yX7_turned cX7_turned 4 (some .long), Cond.methodLink RL 65 yL_mend, Cond.static yL_mend, Cond.codeWith yL_mend cL_mend 5 (some .int) [(0, 6, 7, 15), (0, 6, 12, 24)], Cond.classLink RL 24 "java/util/NoSuchElementException", Cond.methodLink RL 19 yX8_mend, Cond.instanceMethod yX8_mend, Cond.selects RX8 yX8_mend yX8_mend, Cond.code yX8_mend cX8_mend 4 (some .int), Cond.methodLink RX8 63 yX8_repairedOrThrow, Cond.static yX8_repairedOrThrow, Cond.code yX8_repairedOrThrow cX8_repairedOrThrow 5 (some .long), Cond.classLink RX8 87 "java/util/NoSuchElementException", Cond.initialized "java/util/NoSuchElementException", Cond.constantLong RX8 298 (4294967295)]
def wsL_law0_r8 : List Cond := [Cond.constantLong RX8 75 (255), Cond.constantLong RX8 303 (-1), Cond.methodLink RX8 300 yX7_repaired, Cond.static yX7_repaired, Cond.code yX7_repaired cX7_repaired 7 (some .long), Cond.constantLong RX7 35 (-1), Cond.methodLink RX7 25 yJ6_bitCount_0f7a4, Cond.static yJ6_bitCount_0f7a4, Cond.initialized RJ6, Cond.code yJ6_bitCount_0f7a4 cJ6_bitCount_0f7a4 1 (some .int), Cond.constant RJ6 265 (1431655765), Cond.constant RJ6 266 (858993459), Cond.constant RJ6 267 (252645135), Cond.methodLink RX8 67 yX7_valueOf, Cond.static yX7_valueOf, Cond.code yX7_valueOf cX7_valueOf 2 (some .int), Cond.constantLong RX7 19 (65535), Cond.methodLink RL 68 yL_mended, Cond.static yL_mended, Cond.codeWith yL_mended cL_mended 5 (some .int) [(0, 6, 7, 15), (0, 6, 12, 24)], Cond.methodLink RL 27 yX8_mended, Cond.instanceMethod yX8_mended, Cond.selects RX8 yX8_mended yX8_mended, Cond.code yX8_mended cX8_mended 4 (some .int)]
def wsL_law0_r9 : List Cond := [Cond.methodLink RX8 71 yX7_differences, Cond.static yX7_differences, Cond.code yX7_differences cX7_differences 6 (some .int), Cond.methodLink RL 70 yL_in, Cond.static yL_in, Cond.code yL_in cL_in 3 (some .int), Cond.methodLink RL 43 yL_cell, Cond.static yL_cell, Cond.code yL_cell cL_cell 3 (some .int), Cond.constant RL 7 (69069), Cond.constant RL 8 (1103515245), Cond.methodLink RL 74 yL_isWord, Cond.static yL_isWord, Cond.code yL_isWord cL_isWord 8 (some .boolean), Cond.methodLink RL 52 yL_nibble, Cond.static yL_nibble, Cond.code yL_nibble cL_nibble 3 (some .int), Cond.constantLong RL 50 (15), Cond.methodLink RL 55 yL_product, Cond.static yL_product, Cond.code yL_product cL_product 5 (some .int), Cond.methodLink RL 82 yL_encode, Cond.static yL_encode, Cond.codeWith yL_encode cL_encode 4 (some .int) [(0, 6, 7, 15)]]
def wsL_law0_r10 : List Cond := [Cond.methodLink RL 30 yX8_encode, Cond.instanceMethod yX8_encode, Cond.selects RX8 yX8_encode yX8_encode, Cond.code yX8_encode cX8_encode 3 (some .int), Cond.methodLink RX8 77 yX1_ofByte, Cond.static yX1_ofByte, Cond.initialized RX1, Cond.code yX1_ofByte cX1_ofByte 7 (some .int), Cond.methodLink RL 85 yL_decode, Cond.static yL_decode, Cond.codeWith yL_decode cL_decode 4 (some .int) [(0, 6, 7, 15), (0, 6, 11, 24)], Cond.methodLink RL 34 yX8_decode, Cond.instanceMethod yX8_decode, Cond.selects RX8 yX8_decode yX8_decode, Cond.code yX8_decode cX8_decode 4 (some .int), Cond.methodLink RX8 83 yX1_dataOf, Cond.static yX1_dataOf, Cond.code yX1_dataOf cX1_dataOf 3 (some .int), Cond.methodLink RL 87 yX8_guess, Cond.instanceMethod yX8_guess, Cond.selects RX8 yX8_guess yX8_guess, Cond.code yX8_guess cX8_guess 1 (some .int), Cond.methodLink RX8 104 yX2_bestCells, Cond.instanceMethod yX2_bestCells]
def wsL_law0_r11 : List Cond := [Cond.selects RX2 yX2_bestCells yX2_bestCells, Cond.code yX2_bestCells cX2_bestCells 3 (some .int), Cond.constantLong RX2 40 (1000000), Cond.methodLink RX2 42 yX4_fill, Cond.methodLink RX2 36 yX4_put, Cond.instanceMethod yX4_put, Cond.selects RX4 yX4_put yX4_put, Cond.code yX4_put cX4_put 4 none, Cond.methodLink RX2 46 yX4_at, Cond.instanceMethod yX4_at, Cond.selects RX4 yX4_at yX4_at, Cond.code yX4_at cX4_at 2 (some .long), Cond.methodLink RX2 50 yX2_goOn, Cond.instanceMethod yX2_goOn, Cond.selects RX2 yX2_goOn yX2_goOn, Cond.code yX2_goOn cX2_goOn 12 none, Cond.methodLink RX2 53 yX2_isBetter, Cond.static yX2_isBetter, Cond.code yX2_isBetter cX2_isBetter 8 (some .boolean), Cond.methodLink RX2 57 yX4_intAt, Cond.instanceMethod yX4_intAt, Cond.selects RX4 yX4_intAt yX4_intAt, Cond.code yX4_intAt cX4_intAt 2 (some .int), Cond.methodLink RX4 13 yX4_at]
def wsL_law0_r12 : List Cond := [Cond.methodLink RL 91 yL_sample, Cond.static yL_sample, Cond.codeWith yL_sample cL_sample 3 (some .int) [(0, 5, 6, 15), (0, 5, 10, 41)], Cond.classLink RL 41 "java/lang/IllegalStateException", Cond.methodLink RL 37 yX8_sample, Cond.instanceMethod yX8_sample, Cond.selects RX8 yX8_sample yX8_sample, Cond.code yX8_sample cX8_sample 2 (some .int), Cond.classLink RX8 98 "java/lang/IllegalStateException", Cond.initialized "java/lang/IllegalStateException", Cond.constantLong RX8 90 (-40), Cond.constantLong RX8 92 (40), Cond.methodLink RX8 94 yX2_size, Cond.instanceMethod yX2_size, Cond.selects RX2 yX2_size yX2_size, Cond.code yX2_size cX2_size 1 (some .int), Cond.methodLink RX8 101 yX2_add, Cond.instanceMethod yX2_add, Cond.selects RX2 yX2_add yX2_add, Cond.code yX2_add cX2_add 2 (some .int), Cond.methodLink RL 96 yX8_isSound, Cond.instanceMethod yX8_isSound, Cond.selects RX8 yX8_isSound yX8_isSound, Cond.code yX8_isSound cX8_isSound 1 (some .boolean)]
def wsL_law0_r13 : List Cond := [Cond.methodLink RX8 286 yX3_keepsWhatWasSent, Cond.instanceMethod yX3_keepsWhatWasSent, Cond.selects RX3 yX3_keepsWhatWasSent yX3_keepsWhatWasSent, Cond.code yX3_keepsWhatWasSent cX3_keepsWhatWasSent 3 (some .boolean), Cond.methodLink RX3 145 yX4_at, Cond.methodLink RX3 80 yX4_isSet, Cond.instanceMethod yX4_isSet, Cond.selects RX4 yX4_isSet yX4_isSet, Cond.code yX4_isSet cX4_isSet 2 (some .boolean), Cond.methodLink RX3 148 yX3_tellsWhatWasSent, Cond.instanceMethod yX3_tellsWhatWasSent, Cond.selects RX3 yX3_tellsWhatWasSent yX3_tellsWhatWasSent, Cond.code yX3_tellsWhatWasSent cX3_tellsWhatWasSent 5 (some .boolean), Cond.methodLink RX3 121 yX3_newestStore, Cond.instanceMethod yX3_newestStore, Cond.selects RX3 yX3_newestStore yX3_newestStore, Cond.code yX3_newestStore cX3_newestStore 2 (some (.object "Shingletrack$Store")), Cond.methodLink RX3 76 yX6_has, Cond.instanceMethod yX6_has, Cond.selects RX6 yX6_has yX6_has, Cond.code yX6_has cX6_has 2 (some .boolean), Cond.methodLink RX6 29 yX4_at, Cond.methodLink RX3 125 yX6_wordOf, Cond.instanceMethod yX6_wordOf]
def wsL_law0_r14 : List Cond := [Cond.selects RX6 yX6_wordOf yX6_wordOf, Cond.code yX6_wordOf cX6_wordOf 2 (some .long), Cond.methodLink RX3 128 yX6_weakOf, Cond.instanceMethod yX6_weakOf, Cond.selects RX6 yX6_weakOf yX6_weakOf, Cond.code yX6_weakOf cX6_weakOf 2 (some .int), Cond.methodLink RX6 33 yX4_intAt, Cond.methodLink RX3 131 yX7_repaired, Cond.methodLink RX3 151 yX7_valueOf, Cond.methodLink RX8 289 yX3_endsHold, Cond.instanceMethod yX3_endsHold, Cond.selects RX3 yX3_endsHold yX3_endsHold, Cond.code yX3_endsHold cX3_endsHold 2 (some .boolean), Cond.methodLink RX3 155 yX3_endOf, Cond.instanceMethod yX3_endOf, Cond.selects RX3 yX3_endOf yX3_endOf, Cond.code yX3_endOf cX3_endOf 2 (some .int), Cond.methodLink RX3 68 yX4_intAt, Cond.methodLink RX8 292 yX0_holdsEachOnce, Cond.instanceMethod yX0_holdsEachOnce, Cond.selects RX0 yX0_holdsEachOnce yX0_holdsEachOnce, Cond.code yX0_holdsEachOnce cX0_holdsEachOnce 2 (some .boolean), Cond.methodLink RX0 31 yX4_intAt, Cond.methodLink RX0 27 yX0_indexOf]
def wsL_law0_r15 : List Cond := [Cond.instanceMethod yX0_indexOf, Cond.selects RX0 yX0_indexOf yX0_indexOf, Cond.code yX0_indexOf cX0_indexOf 3 (some .int), Cond.methodLink RX0 41 yX4_at, Cond.methodLink RX8 155 yX6_size, Cond.instanceMethod yX6_size, Cond.selects RX6 yX6_size yX6_size, Cond.code yX6_size cX6_size 3 (some .int), Cond.methodLink RX6 42 yX6_has]
def wsL_law0 : List Cond := (wsL_law0_r1 ++ (wsL_law0_r2 ++ (wsL_law0_r3 ++ (wsL_law0_r4 ++ (wsL_law0_r5 ++ (wsL_law0_r6 ++ (wsL_law0_r7 ++ (wsL_law0_r8 ++ (wsL_law0_r9 ++ (wsL_law0_r10 ++ (wsL_law0_r11 ++ (wsL_law0_r12 ++ (wsL_law0_r13 ++ (wsL_law0_r14 ++ wsL_law0_r15)))))))))))))) ++ wsX80 ++ wsX20 ++ wsX00 ++ wsX30 ++ wsX50 ++ wsX40 ++ wsX60 ++ ([] : List Cond)
def wsL_law : List Cond := wsL_law0 ++ (vx_at0 RX8 240 "java/lang/IllegalArgumentException" ["java/lang/RuntimeException", "java/lang/Exception"]).filter goodWord ++ (vx_at0 RX8 89 "java/util/NoSuchElementException" ["java/lang/RuntimeException", "java/lang/Exception"]).filter goodWord ++ (vx_at0 RX8 100 "java/lang/IllegalStateException" ["java/lang/RuntimeException", "java/lang/Exception"]).filter goodWord
set_option maxRecDepth 20000 in
theorem wsL_law_in0 : ∀ w ∈ wsL_law0, w ∈ lw_tbl := fun w h => (goodIn_p wsL_law0 [25, 28, 33, 39, 69, 87, 93, 101, 158, 341, 345, 411, 279, 282, 285, 298, 294, 301, 304, 420, 423, 276, 288, 308, 452, 455, 511, 514, 520, 523, 527, 462, 465, 472, 475, 212, 216, 222, 226, 230, 233, 237, 483, 489, 508, 242, 246, 251, 255, 259, 263, 268, 272, 313, 317, 322, 327, 332] (by decide +kernel) (by decide +kernel) w h).1
theorem wsL_law_x0 : ∀ w ∈ (vx_at0 RX8 240 "java/lang/IllegalArgumentException" ["java/lang/RuntimeException", "java/lang/Exception"]).filter goodWord, w ∈ lw_tbl := by decide +kernel
theorem wsL_law_x1 : ∀ w ∈ (vx_at0 RX8 89 "java/util/NoSuchElementException" ["java/lang/RuntimeException", "java/lang/Exception"]).filter goodWord, w ∈ lw_tbl := by decide +kernel
theorem wsL_law_x2 : ∀ w ∈ (vx_at0 RX8 100 "java/lang/IllegalStateException" ["java/lang/RuntimeException", "java/lang/Exception"]).filter goodWord, w ∈ lw_tbl := by decide +kernel
theorem wsL_law_in : ∀ w ∈ wsL_law, w ∈ lw_tbl := fun w h => (List.mem_append.mp h).elim (fun h => (List.mem_append.mp h).elim (fun h => (List.mem_append.mp h).elim (fun h => wsL_law_in0 w h) (fun h => wsL_law_x0 w h)) (fun h => wsL_law_x1 w h)) (fun h => wsL_law_x2 w h)
theorem inlX0 : ∀ w ∈ wsX00, w ∈ wsL_law := fun _ h => List.mem_append_left _ (List.mem_append_left _ (List.mem_append_left _ (List.mem_append_left _ (List.mem_append_left _ (List.mem_append_left _ (List.mem_append_left _ (List.mem_append_left _ (List.mem_append_right _ h))))))))
theorem inX0 : ∀ w ∈ wsX00, w ∈ lw_tbl := fun w h => wsL_law_in w (inlX0 w h)
theorem inX1 : ∀ w ∈ wsX10, w ∈ lw_tbl := by decide +kernel
theorem inlX2 : ∀ w ∈ wsX20, w ∈ wsL_law := fun _ h => List.mem_append_left _ (List.mem_append_left _ (List.mem_append_left _ (List.mem_append_left _ (List.mem_append_left _ (List.mem_append_left _ (List.mem_append_left _ (List.mem_append_left _ (List.mem_append_left _ (List.mem_append_right _ h)))))))))
theorem inX2 : ∀ w ∈ wsX20, w ∈ lw_tbl := fun w h => wsL_law_in w (inlX2 w h)
theorem inlX3 : ∀ w ∈ wsX30, w ∈ wsL_law := fun _ h => List.mem_append_left _ (List.mem_append_left _ (List.mem_append_left _ (List.mem_append_left _ (List.mem_append_left _ (List.mem_append_left _ (List.mem_append_left _ (List.mem_append_right _ h)))))))
theorem inX3 : ∀ w ∈ wsX30, w ∈ lw_tbl := fun w h => wsL_law_in w (inlX3 w h)
theorem inlX4 : ∀ w ∈ wsX40, w ∈ wsL_law := fun _ h => List.mem_append_left _ (List.mem_append_left _ (List.mem_append_left _ (List.mem_append_left _ (List.mem_append_left _ (List.mem_append_right _ h)))))
theorem inX4 : ∀ w ∈ wsX40, w ∈ lw_tbl := fun w h => wsL_law_in w (inlX4 w h)
theorem inlX5 : ∀ w ∈ wsX50, w ∈ wsL_law := fun _ h => List.mem_append_left _ (List.mem_append_left _ (List.mem_append_left _ (List.mem_append_left _ (List.mem_append_left _ (List.mem_append_left _ (List.mem_append_right _ h))))))
theorem inX5 : ∀ w ∈ wsX50, w ∈ lw_tbl := fun w h => wsL_law_in w (inlX5 w h)
theorem inlX6 : ∀ w ∈ wsX60, w ∈ wsL_law := fun _ h => List.mem_append_left _ (List.mem_append_left _ (List.mem_append_left _ (List.mem_append_left _ (List.mem_append_right _ h))))
theorem inX6 : ∀ w ∈ wsX60, w ∈ lw_tbl := fun w h => wsL_law_in w (inlX6 w h)
theorem inX7 : ∀ w ∈ wsX70, w ∈ lw_tbl := by decide +kernel
theorem inlX8 : ∀ w ∈ wsX80, w ∈ wsL_law := fun _ h => List.mem_append_left _ (List.mem_append_left _ (List.mem_append_left _ (List.mem_append_left _ (List.mem_append_left _ (List.mem_append_left _ (List.mem_append_left _ (List.mem_append_left _ (List.mem_append_left _ (List.mem_append_left _ (List.mem_append_right _ h))))))))))
theorem inX8 : ∀ w ∈ wsX80, w ∈ lw_tbl := fun w h => wsL_law_in w (inlX8 w h)
theorem inX9 : ∀ w ∈ wsX90, w ∈ lw_tbl := by decide +kernel
theorem inJx145de : ∀ w ∈ wsJx145de0, w ∈ lw_tbl := by decide +kernel
theorem inJ6 : ∀ w ∈ wsJ60, w ∈ lw_tbl := by decide +kernel
set_option maxRecDepth 20000 in
theorem ggX0_init_X4_init : GoodIn wsX0_init wsX4_init := goodIn_r _ [12, 13, 2, 3, 14, 15, 16] (by decide +kernel) (by decide +kernel)
set_option maxRecDepth 20000 in
theorem gX0_init_X4_init : GoodIn wsX0_init (wsX4_init) := ggX0_init_X4_init
theorem dX0_init_0 : decode cX0_init 0 = .ok (.aload_n 0, 1) := by decide +kernel
theorem dX0_init_1 : decode cX0_init 1 = .ok (.invokespecial 3, 3) := by decide +kernel
theorem dX0_init_4 : decode cX0_init 4 = .ok (.aload_n 0, 1) := by decide +kernel
theorem dX0_init_5 : decode cX0_init 5 = .ok (.new 9, 3) := by decide +kernel
theorem dX0_init_8 : decode cX0_init 8 = .ok (.dup, 1) := by decide +kernel
theorem dX0_init_9 : decode cX0_init 9 = .ok (.bipush 6, 2) := by decide +kernel
theorem dX0_init_11 : decode cX0_init 11 = .ok (.invokespecial 11, 3) := by decide +kernel
theorem dX0_init_14 : decode cX0_init 14 = .ok (.putfield 14, 3) := by decide +kernel
theorem dX0_init_17 : decode cX0_init 17 = .ok (.aload_n 0, 1) := by decide +kernel
theorem dX0_init_18 : decode cX0_init 18 = .ok (.new 9, 3) := by decide +kernel
theorem dX0_init_21 : decode cX0_init 21 = .ok (.dup, 1) := by decide +kernel
theorem dX0_init_22 : decode cX0_init 22 = .ok (.bipush 6, 2) := by decide +kernel
theorem dX0_init_24 : decode cX0_init 24 = .ok (.invokespecial 11, 3) := by decide +kernel
theorem dX0_init_27 : decode cX0_init 27 = .ok (.putfield 20, 3) := by decide +kernel
theorem dX0_init_30 : decode cX0_init 30 = .ok (.aload_n 0, 1) := by decide +kernel
theorem dX0_init_31 : decode cX0_init 31 = .ok (.iconst 0, 1) := by decide +kernel
theorem dX0_init_32 : decode cX0_init 32 = .ok (.putfield 23, 3) := by decide +kernel
theorem dX0_init_35 : decode cX0_init 35 = .ok (.return_, 1) := by decide +kernel
set_option maxRecDepth 20000 in
theorem ggX0_holdsEachOnce_X4_intAt : GoodIn wsX0_holdsEachOnce wsX4_intAt := goodIn_r _ [7, 8, 9, 10, 6, 11, 12, 22] (by decide +kernel) (by decide +kernel)
set_option maxRecDepth 20000 in
theorem gX0_holdsEachOnce_X4_intAt : GoodIn wsX0_holdsEachOnce (wsV RX0 31 RX4 yX4_intAt wsX4_intAt) := goodIn_app (goodIn_of _ (by decide +kernel)) ggX0_holdsEachOnce_X4_intAt
set_option maxRecDepth 20000 in
theorem ggX0_holdsEachOnce_X0_indexOf : GoodIn wsX0_holdsEachOnce wsX0_indexOf := goodIn_r _ [17, 1, 2, 18, 9, 10, 6, 11, 12, 19, 20, 21, 22] (by decide +kernel) (by decide +kernel)
set_option maxRecDepth 20000 in
theorem gX0_holdsEachOnce_X0_indexOf : GoodIn wsX0_holdsEachOnce (wsV RX0 27 RX0 yX0_indexOf wsX0_indexOf) := goodIn_app (goodIn_of _ (by decide +kernel)) ggX0_holdsEachOnce_X0_indexOf
theorem dX0_holdsEachOnce_0 : decode cX0_holdsEachOnce 0 = .ok (.iconst 0, 1) := by decide +kernel
theorem dX0_holdsEachOnce_1 : decode cX0_holdsEachOnce 1 = .ok (.istore_n 1, 1) := by decide +kernel
theorem dX0_holdsEachOnce_2 : decode cX0_holdsEachOnce 2 = .ok (.iload_n 1, 1) := by decide +kernel
theorem dX0_holdsEachOnce_3 : decode cX0_holdsEachOnce 3 = .ok (.aload_n 0, 1) := by decide +kernel
theorem dX0_holdsEachOnce_4 : decode cX0_holdsEachOnce 4 = .ok (.getfield 23, 3) := by decide +kernel
theorem dX0_holdsEachOnce_7 : decode cX0_holdsEachOnce 7 = .ok (.if_icmp .ge 27, 3) := by decide +kernel
theorem dX0_holdsEachOnce_10 : decode cX0_holdsEachOnce 10 = .ok (.aload_n 0, 1) := by decide +kernel
theorem dX0_holdsEachOnce_11 : decode cX0_holdsEachOnce 11 = .ok (.aload_n 0, 1) := by decide +kernel
theorem dX0_holdsEachOnce_12 : decode cX0_holdsEachOnce 12 = .ok (.getfield 14, 3) := by decide +kernel
theorem dX0_holdsEachOnce_15 : decode cX0_holdsEachOnce 15 = .ok (.iload_n 1, 1) := by decide +kernel
theorem dX0_holdsEachOnce_16 : decode cX0_holdsEachOnce 16 = .ok (.invokevirtual 31, 3) := by decide +kernel
theorem dX0_holdsEachOnce_19 : decode cX0_holdsEachOnce 19 = .ok (.invokevirtual 27, 3) := by decide +kernel
theorem dX0_holdsEachOnce_22 : decode cX0_holdsEachOnce 22 = .ok (.iload_n 1, 1) := by decide +kernel
theorem dX0_holdsEachOnce_23 : decode cX0_holdsEachOnce 23 = .ok (.if_icmp .eq 5, 3) := by decide +kernel
theorem dX0_holdsEachOnce_26 : decode cX0_holdsEachOnce 26 = .ok (.iconst 0, 1) := by decide +kernel
theorem dX0_holdsEachOnce_27 : decode cX0_holdsEachOnce 27 = .ok (.ireturn, 1) := by decide +kernel
theorem dX0_holdsEachOnce_28 : decode cX0_holdsEachOnce 28 = .ok (.iinc 1 1, 3) := by decide +kernel
theorem dX0_holdsEachOnce_31 : decode cX0_holdsEachOnce 31 = .ok (.goto (-29), 3) := by decide +kernel
theorem dX0_holdsEachOnce_34 : decode cX0_holdsEachOnce 34 = .ok (.iconst 1, 1) := by decide +kernel
theorem dX0_holdsEachOnce_35 : decode cX0_holdsEachOnce 35 = .ok (.ireturn, 1) := by decide +kernel
set_option maxRecDepth 20000 in
theorem ggX0_indexOf_X4_at : GoodIn wsX0_indexOf wsX4_at := goodIn_r _ [7, 8, 12] (by decide +kernel) (by decide +kernel)
set_option maxRecDepth 20000 in
theorem gX0_indexOf_X4_at : GoodIn wsX0_indexOf (wsV RX0 41 RX4 yX4_at wsX4_at) := goodIn_app (goodIn_of _ (by decide +kernel)) ggX0_indexOf_X4_at
theorem dX0_indexOf_0 : decode cX0_indexOf 0 = .ok (.iconst 0, 1) := by decide +kernel
theorem dX0_indexOf_1 : decode cX0_indexOf 1 = .ok (.istore_n 2, 1) := by decide +kernel
theorem dX0_indexOf_2 : decode cX0_indexOf 2 = .ok (.iload_n 2, 1) := by decide +kernel
theorem dX0_indexOf_3 : decode cX0_indexOf 3 = .ok (.aload_n 0, 1) := by decide +kernel
theorem dX0_indexOf_4 : decode cX0_indexOf 4 = .ok (.getfield 23, 3) := by decide +kernel
theorem dX0_indexOf_7 : decode cX0_indexOf 7 = .ok (.if_icmp .ge 25, 3) := by decide +kernel
theorem dX0_indexOf_10 : decode cX0_indexOf 10 = .ok (.aload_n 0, 1) := by decide +kernel
theorem dX0_indexOf_11 : decode cX0_indexOf 11 = .ok (.getfield 14, 3) := by decide +kernel
theorem dX0_indexOf_14 : decode cX0_indexOf 14 = .ok (.iload_n 2, 1) := by decide +kernel
theorem dX0_indexOf_15 : decode cX0_indexOf 15 = .ok (.invokevirtual 41, 3) := by decide +kernel
theorem dX0_indexOf_18 : decode cX0_indexOf 18 = .ok (.iload_n 1, 1) := by decide +kernel
theorem dX0_indexOf_19 : decode cX0_indexOf 19 = .ok (.i2l, 1) := by decide +kernel
theorem dX0_indexOf_20 : decode cX0_indexOf 20 = .ok (.lcmp, 1) := by decide +kernel
theorem dX0_indexOf_21 : decode cX0_indexOf 21 = .ok (.ifCond .ne 5, 3) := by decide +kernel
theorem dX0_indexOf_24 : decode cX0_indexOf 24 = .ok (.iload_n 2, 1) := by decide +kernel
theorem dX0_indexOf_25 : decode cX0_indexOf 25 = .ok (.ireturn, 1) := by decide +kernel
theorem dX0_indexOf_26 : decode cX0_indexOf 26 = .ok (.iinc 2 1, 3) := by decide +kernel
theorem dX0_indexOf_29 : decode cX0_indexOf 29 = .ok (.goto (-27), 3) := by decide +kernel
theorem dX0_indexOf_32 : decode cX0_indexOf 32 = .ok (.aload_n 0, 1) := by decide +kernel
theorem dX0_indexOf_33 : decode cX0_indexOf 33 = .ok (.getfield 23, 3) := by decide +kernel
theorem dX0_indexOf_36 : decode cX0_indexOf 36 = .ok (.ireturn, 1) := by decide +kernel
theorem dX1_ofByte_0 : decode cX1_ofByte 0 = .ok (.iconst 0, 1) := by decide +kernel
theorem dX1_ofByte_1 : decode cX1_ofByte 1 = .ok (.istore_n 2, 1) := by decide +kernel
theorem dX1_ofByte_2 : decode cX1_ofByte 2 = .ok (.iload_n 1, 1) := by decide +kernel
theorem dX1_ofByte_3 : decode cX1_ofByte 3 = .ok (.istore_n 3, 1) := by decide +kernel
theorem dX1_ofByte_4 : decode cX1_ofByte 4 = .ok (.bipush 7, 2) := by decide +kernel
theorem dX1_ofByte_6 : decode cX1_ofByte 6 = .ok (.istore 4, 2) := by decide +kernel
theorem dX1_ofByte_8 : decode cX1_ofByte 8 = .ok (.iload 4, 2) := by decide +kernel
theorem dX1_ofByte_10 : decode cX1_ofByte 10 = .ok (.ifCond .lt 48, 3) := by decide +kernel
theorem dX1_ofByte_13 : decode cX1_ofByte 13 = .ok (.iload_n 0, 1) := by decide +kernel
theorem dX1_ofByte_14 : decode cX1_ofByte 14 = .ok (.iload 4, 2) := by decide +kernel
theorem dX1_ofByte_16 : decode cX1_ofByte 16 = .ok (.ishr, 1) := by decide +kernel
theorem dX1_ofByte_17 : decode cX1_ofByte 17 = .ok (.iconst 1, 1) := by decide +kernel
theorem dX1_ofByte_18 : decode cX1_ofByte 18 = .ok (.iand, 1) := by decide +kernel
theorem dX1_ofByte_19 : decode cX1_ofByte 19 = .ok (.istore 5, 2) := by decide +kernel
theorem dX1_ofByte_21 : decode cX1_ofByte 21 = .ok (.iload_n 3, 1) := by decide +kernel
theorem dX1_ofByte_22 : decode cX1_ofByte 22 = .ok (.ifCond .ne 12, 3) := by decide +kernel
theorem dX1_ofByte_25 : decode cX1_ofByte 25 = .ok (.iload 5, 2) := by decide +kernel
theorem dX1_ofByte_27 : decode cX1_ofByte 27 = .ok (.ifCond .ne 7, 3) := by decide +kernel
theorem dX1_ofByte_30 : decode cX1_ofByte 30 = .ok (.iconst 1, 1) := by decide +kernel
theorem dX1_ofByte_31 : decode cX1_ofByte 31 = .ok (.goto 4, 3) := by decide +kernel
theorem dX1_ofByte_34 : decode cX1_ofByte 34 = .ok (.iconst 0, 1) := by decide +kernel
theorem dX1_ofByte_35 : decode cX1_ofByte 35 = .ok (.istore 6, 2) := by decide +kernel
theorem dX1_ofByte_37 : decode cX1_ofByte 37 = .ok (.iload_n 2, 1) := by decide +kernel
theorem dX1_ofByte_38 : decode cX1_ofByte 38 = .ok (.iconst 2, 1) := by decide +kernel
theorem dX1_ofByte_39 : decode cX1_ofByte 39 = .ok (.ishl, 1) := by decide +kernel
theorem dX1_ofByte_40 : decode cX1_ofByte 40 = .ok (.iload 6, 2) := by decide +kernel
theorem dX1_ofByte_42 : decode cX1_ofByte 42 = .ok (.iconst 1, 1) := by decide +kernel
theorem dX1_ofByte_43 : decode cX1_ofByte 43 = .ok (.ishl, 1) := by decide +kernel
theorem dX1_ofByte_44 : decode cX1_ofByte 44 = .ok (.ior, 1) := by decide +kernel
theorem dX1_ofByte_45 : decode cX1_ofByte 45 = .ok (.iload 5, 2) := by decide +kernel
theorem dX1_ofByte_47 : decode cX1_ofByte 47 = .ok (.ior, 1) := by decide +kernel
theorem dX1_ofByte_48 : decode cX1_ofByte 48 = .ok (.istore_n 2, 1) := by decide +kernel
theorem dX1_ofByte_49 : decode cX1_ofByte 49 = .ok (.iload 5, 2) := by decide +kernel
theorem dX1_ofByte_51 : decode cX1_ofByte 51 = .ok (.istore_n 3, 1) := by decide +kernel
theorem dX1_ofByte_52 : decode cX1_ofByte 52 = .ok (.iinc 4 (-1), 3) := by decide +kernel
theorem dX1_ofByte_55 : decode cX1_ofByte 55 = .ok (.goto (-47), 3) := by decide +kernel
theorem dX1_ofByte_58 : decode cX1_ofByte 58 = .ok (.iload_n 2, 1) := by decide +kernel
theorem dX1_ofByte_59 : decode cX1_ofByte 59 = .ok (.ireturn, 1) := by decide +kernel
theorem dX1_dataOf_0 : decode cX1_dataOf 0 = .ok (.iconst 0, 1) := by decide +kernel
theorem dX1_dataOf_1 : decode cX1_dataOf 1 = .ok (.istore_n 1, 1) := by decide +kernel
theorem dX1_dataOf_2 : decode cX1_dataOf 2 = .ok (.bipush 7, 2) := by decide +kernel
theorem dX1_dataOf_4 : decode cX1_dataOf 4 = .ok (.istore_n 2, 1) := by decide +kernel
theorem dX1_dataOf_5 : decode cX1_dataOf 5 = .ok (.iload_n 2, 1) := by decide +kernel
theorem dX1_dataOf_6 : decode cX1_dataOf 6 = .ok (.ifCond .lt 21, 3) := by decide +kernel
theorem dX1_dataOf_9 : decode cX1_dataOf 9 = .ok (.iload_n 1, 1) := by decide +kernel
theorem dX1_dataOf_10 : decode cX1_dataOf 10 = .ok (.iconst 1, 1) := by decide +kernel
theorem dX1_dataOf_11 : decode cX1_dataOf 11 = .ok (.ishl, 1) := by decide +kernel
theorem dX1_dataOf_12 : decode cX1_dataOf 12 = .ok (.iload_n 0, 1) := by decide +kernel
theorem dX1_dataOf_13 : decode cX1_dataOf 13 = .ok (.iconst 2, 1) := by decide +kernel
theorem dX1_dataOf_14 : decode cX1_dataOf 14 = .ok (.iload_n 2, 1) := by decide +kernel
theorem dX1_dataOf_15 : decode cX1_dataOf 15 = .ok (.imul, 1) := by decide +kernel
theorem dX1_dataOf_16 : decode cX1_dataOf 16 = .ok (.ishr, 1) := by decide +kernel
theorem dX1_dataOf_17 : decode cX1_dataOf 17 = .ok (.iconst 1, 1) := by decide +kernel
theorem dX1_dataOf_18 : decode cX1_dataOf 18 = .ok (.iand, 1) := by decide +kernel
theorem dX1_dataOf_19 : decode cX1_dataOf 19 = .ok (.ior, 1) := by decide +kernel
theorem dX1_dataOf_20 : decode cX1_dataOf 20 = .ok (.istore_n 1, 1) := by decide +kernel
theorem dX1_dataOf_21 : decode cX1_dataOf 21 = .ok (.iinc 2 (-1), 3) := by decide +kernel
theorem dX1_dataOf_24 : decode cX1_dataOf 24 = .ok (.goto (-19), 3) := by decide +kernel
theorem dX1_dataOf_27 : decode cX1_dataOf 27 = .ok (.iload_n 1, 1) := by decide +kernel
theorem dX1_dataOf_28 : decode cX1_dataOf 28 = .ok (.ireturn, 1) := by decide +kernel
set_option maxRecDepth 20000 in
theorem ggX2_init_X4_init : GoodIn wsX2_init wsX4_init := goodIn_r _ [15, 16, 2, 3, 17, 18, 19] (by decide +kernel) (by decide +kernel)
set_option maxRecDepth 20000 in
theorem gX2_init_X4_init : GoodIn wsX2_init (wsX4_init) := ggX2_init_X4_init
theorem dX2_init_0 : decode cX2_init 0 = .ok (.aload_n 0, 1) := by decide +kernel
theorem dX2_init_1 : decode cX2_init 1 = .ok (.invokespecial 3, 3) := by decide +kernel
theorem dX2_init_4 : decode cX2_init 4 = .ok (.aload_n 0, 1) := by decide +kernel
theorem dX2_init_5 : decode cX2_init 5 = .ok (.new 9, 3) := by decide +kernel
theorem dX2_init_8 : decode cX2_init 8 = .ok (.dup, 1) := by decide +kernel
theorem dX2_init_9 : decode cX2_init 9 = .ok (.bipush 12, 2) := by decide +kernel
theorem dX2_init_11 : decode cX2_init 11 = .ok (.invokespecial 11, 3) := by decide +kernel
theorem dX2_init_14 : decode cX2_init 14 = .ok (.putfield 14, 3) := by decide +kernel
theorem dX2_init_17 : decode cX2_init 17 = .ok (.aload_n 0, 1) := by decide +kernel
theorem dX2_init_18 : decode cX2_init 18 = .ok (.iconst 0, 1) := by decide +kernel
theorem dX2_init_19 : decode cX2_init 19 = .ok (.putfield 20, 3) := by decide +kernel
theorem dX2_init_22 : decode cX2_init 22 = .ok (.aload_n 0, 1) := by decide +kernel
theorem dX2_init_23 : decode cX2_init 23 = .ok (.new 9, 3) := by decide +kernel
theorem dX2_init_26 : decode cX2_init 26 = .ok (.dup, 1) := by decide +kernel
theorem dX2_init_27 : decode cX2_init 27 = .ok (.iconst 4, 1) := by decide +kernel
theorem dX2_init_28 : decode cX2_init 28 = .ok (.invokespecial 11, 3) := by decide +kernel
theorem dX2_init_31 : decode cX2_init 31 = .ok (.putfield 24, 3) := by decide +kernel
theorem dX2_init_34 : decode cX2_init 34 = .ok (.aload_n 0, 1) := by decide +kernel
theorem dX2_init_35 : decode cX2_init 35 = .ok (.new 9, 3) := by decide +kernel
theorem dX2_init_38 : decode cX2_init 38 = .ok (.dup, 1) := by decide +kernel
theorem dX2_init_39 : decode cX2_init 39 = .ok (.iconst 4, 1) := by decide +kernel
theorem dX2_init_40 : decode cX2_init 40 = .ok (.invokespecial 11, 3) := by decide +kernel
theorem dX2_init_43 : decode cX2_init 43 = .ok (.putfield 27, 3) := by decide +kernel
theorem dX2_init_46 : decode cX2_init 46 = .ok (.aload_n 0, 1) := by decide +kernel
theorem dX2_init_47 : decode cX2_init 47 = .ok (.new 9, 3) := by decide +kernel
theorem dX2_init_50 : decode cX2_init 50 = .ok (.dup, 1) := by decide +kernel
theorem dX2_init_51 : decode cX2_init 51 = .ok (.iconst 4, 1) := by decide +kernel
theorem dX2_init_52 : decode cX2_init 52 = .ok (.invokespecial 11, 3) := by decide +kernel
theorem dX2_init_55 : decode cX2_init 55 = .ok (.putfield 30, 3) := by decide +kernel
theorem dX2_init_58 : decode cX2_init 58 = .ok (.aload_n 0, 1) := by decide +kernel
theorem dX2_init_59 : decode cX2_init 59 = .ok (.new 9, 3) := by decide +kernel
theorem dX2_init_62 : decode cX2_init 62 = .ok (.dup, 1) := by decide +kernel
theorem dX2_init_63 : decode cX2_init 63 = .ok (.iconst 4, 1) := by decide +kernel
theorem dX2_init_64 : decode cX2_init 64 = .ok (.invokespecial 11, 3) := by decide +kernel
theorem dX2_init_67 : decode cX2_init 67 = .ok (.putfield 33, 3) := by decide +kernel
theorem dX2_init_70 : decode cX2_init 70 = .ok (.return_, 1) := by decide +kernel
theorem dX2_size_0 : decode cX2_size 0 = .ok (.aload_n 0, 1) := by decide +kernel
theorem dX2_size_1 : decode cX2_size 1 = .ok (.getfield 20, 3) := by decide +kernel
theorem dX2_size_4 : decode cX2_size 4 = .ok (.ireturn, 1) := by decide +kernel
set_option maxRecDepth 20000 in
theorem ggX2_add_X4_put : GoodIn wsX2_add wsX4_put := goodIn_r _ [7, 8, 15] (by decide +kernel) (by decide +kernel)
set_option maxRecDepth 20000 in
theorem gX2_add_X4_put : GoodIn wsX2_add (wsV RX2 36 RX4 yX4_put wsX4_put) := goodIn_app (goodIn_of _ (by decide +kernel)) ggX2_add_X4_put
theorem dX2_add_0 : decode cX2_add 0 = .ok (.aload_n 0, 1) := by decide +kernel
theorem dX2_add_1 : decode cX2_add 1 = .ok (.getfield 14, 3) := by decide +kernel
theorem dX2_add_4 : decode cX2_add 4 = .ok (.aload_n 0, 1) := by decide +kernel
theorem dX2_add_5 : decode cX2_add 5 = .ok (.getfield 20, 3) := by decide +kernel
theorem dX2_add_8 : decode cX2_add 8 = .ok (.iload_n 1, 1) := by decide +kernel
theorem dX2_add_9 : decode cX2_add 9 = .ok (.i2l, 1) := by decide +kernel
theorem dX2_add_10 : decode cX2_add 10 = .ok (.invokevirtual 36, 3) := by decide +kernel
theorem dX2_add_13 : decode cX2_add 13 = .ok (.aload_n 0, 1) := by decide +kernel
theorem dX2_add_14 : decode cX2_add 14 = .ok (.dup, 1) := by decide +kernel
theorem dX2_add_15 : decode cX2_add 15 = .ok (.getfield 20, 3) := by decide +kernel
theorem dX2_add_18 : decode cX2_add 18 = .ok (.iconst 1, 1) := by decide +kernel
theorem dX2_add_19 : decode cX2_add 19 = .ok (.iadd, 1) := by decide +kernel
theorem dX2_add_20 : decode cX2_add 20 = .ok (.putfield 20, 3) := by decide +kernel
theorem dX2_add_23 : decode cX2_add 23 = .ok (.aload_n 0, 1) := by decide +kernel
theorem dX2_add_24 : decode cX2_add 24 = .ok (.getfield 20, 3) := by decide +kernel
theorem dX2_add_27 : decode cX2_add 27 = .ok (.ireturn, 1) := by decide +kernel
set_option maxRecDepth 20000 in
theorem ggX2_bestCells_X4_fill : GoodIn wsX2_bestCells wsX4_fill := goodIn_r _ [10, 11, 41] (by decide +kernel) (by decide +kernel)
set_option maxRecDepth 20000 in
theorem gX2_bestCells_X4_fill : GoodIn wsX2_bestCells (wsV RX2 42 RX4 yX4_fill wsX4_fill) := goodIn_app (goodIn_of _ (by decide +kernel)) ggX2_bestCells_X4_fill
set_option maxRecDepth 20000 in
theorem ggX2_bestCells_X4_put : GoodIn wsX2_bestCells wsX4_put := goodIn_r _ [15, 11, 41] (by decide +kernel) (by decide +kernel)
set_option maxRecDepth 20000 in
theorem gX2_bestCells_X4_put : GoodIn wsX2_bestCells (wsV RX2 36 RX4 yX4_put wsX4_put) := goodIn_app (goodIn_of _ (by decide +kernel)) ggX2_bestCells_X4_put
set_option maxRecDepth 20000 in
theorem ggX2_bestCells_X4_at : GoodIn wsX2_bestCells wsX4_at := goodIn_r _ [19, 11, 41] (by decide +kernel) (by decide +kernel)
set_option maxRecDepth 20000 in
theorem gX2_bestCells_X4_at : GoodIn wsX2_bestCells (wsV RX2 46 RX4 yX4_at wsX4_at) := goodIn_app (goodIn_of _ (by decide +kernel)) ggX2_bestCells_X4_at
set_option maxRecDepth 20000 in
theorem ggX2_bestCells_X2_goOn : GoodIn wsX2_bestCells wsX2_goOn := goodIn_r _ [24, 25, 2, 26, 1, 3, 6, 7, 8, 9, 10, 11, 16, 17, 18, 19, 27, 28, 23, 29, 12, 13, 14, 15, 35, 36, 37, 38, 39, 40, 41] (by decide +kernel) (by decide +kernel)
set_option maxRecDepth 20000 in
theorem gX2_bestCells_X2_goOn : GoodIn wsX2_bestCells (wsV RX2 50 RX2 yX2_goOn wsX2_goOn) := goodIn_app (goodIn_of _ (by decide +kernel)) ggX2_bestCells_X2_goOn
set_option maxRecDepth 20000 in
theorem ggX2_bestCells_X2_isBetter : GoodIn wsX2_bestCells wsX2_isBetter := goodIn_r _ [29] (by decide +kernel) (by decide +kernel)
set_option maxRecDepth 20000 in
theorem gX2_bestCells_X2_isBetter : GoodIn wsX2_bestCells (va_wsS RX2 53 yX2_isBetter wsX2_isBetter) := goodIn_app (goodIn_of _ (by decide +kernel)) ggX2_bestCells_X2_isBetter
set_option maxRecDepth 20000 in
theorem ggX2_bestCells_X4_intAt : GoodIn wsX2_bestCells wsX4_intAt := goodIn_r _ [33, 34, 17, 18, 9, 19, 11, 41] (by decide +kernel) (by decide +kernel)
set_option maxRecDepth 20000 in
theorem gX2_bestCells_X4_intAt : GoodIn wsX2_bestCells (wsV RX2 57 RX4 yX4_intAt wsX4_intAt) := goodIn_app (goodIn_of _ (by decide +kernel)) ggX2_bestCells_X4_intAt
theorem dX2_bestCells_0 : decode cX2_bestCells 0 = .ok (.aload_n 0, 1) := by decide +kernel
theorem dX2_bestCells_1 : decode cX2_bestCells 1 = .ok (.getfield 24, 3) := by decide +kernel
theorem dX2_bestCells_4 : decode cX2_bestCells 4 = .ok (.ldc2_w 40, 3) := by decide +kernel
theorem dX2_bestCells_7 : decode cX2_bestCells 7 = .ok (.invokevirtual 42, 3) := by decide +kernel
theorem dX2_bestCells_10 : decode cX2_bestCells 10 = .ok (.aload_n 0, 1) := by decide +kernel
theorem dX2_bestCells_11 : decode cX2_bestCells 11 = .ok (.getfield 27, 3) := by decide +kernel
theorem dX2_bestCells_14 : decode cX2_bestCells 14 = .ok (.lconst 0, 1) := by decide +kernel
theorem dX2_bestCells_15 : decode cX2_bestCells 15 = .ok (.invokevirtual 42, 3) := by decide +kernel
theorem dX2_bestCells_18 : decode cX2_bestCells 18 = .ok (.aload_n 0, 1) := by decide +kernel
theorem dX2_bestCells_19 : decode cX2_bestCells 19 = .ok (.getfield 24, 3) := by decide +kernel
theorem dX2_bestCells_22 : decode cX2_bestCells 22 = .ok (.iconst 0, 1) := by decide +kernel
theorem dX2_bestCells_23 : decode cX2_bestCells 23 = .ok (.lconst 0, 1) := by decide +kernel
theorem dX2_bestCells_24 : decode cX2_bestCells 24 = .ok (.invokevirtual 36, 3) := by decide +kernel
theorem dX2_bestCells_27 : decode cX2_bestCells 27 = .ok (.iconst 0, 1) := by decide +kernel
theorem dX2_bestCells_28 : decode cX2_bestCells 28 = .ok (.istore_n 1, 1) := by decide +kernel
theorem dX2_bestCells_29 : decode cX2_bestCells 29 = .ok (.iload_n 1, 1) := by decide +kernel
theorem dX2_bestCells_30 : decode cX2_bestCells 30 = .ok (.aload_n 0, 1) := by decide +kernel
theorem dX2_bestCells_31 : decode cX2_bestCells 31 = .ok (.getfield 20, 3) := by decide +kernel
theorem dX2_bestCells_34 : decode cX2_bestCells 34 = .ok (.if_icmp .ge 21, 3) := by decide +kernel
theorem dX2_bestCells_37 : decode cX2_bestCells 37 = .ok (.aload_n 0, 1) := by decide +kernel
theorem dX2_bestCells_38 : decode cX2_bestCells 38 = .ok (.aload_n 0, 1) := by decide +kernel
theorem dX2_bestCells_39 : decode cX2_bestCells 39 = .ok (.getfield 14, 3) := by decide +kernel
theorem dX2_bestCells_42 : decode cX2_bestCells 42 = .ok (.iload_n 1, 1) := by decide +kernel
theorem dX2_bestCells_43 : decode cX2_bestCells 43 = .ok (.invokevirtual 46, 3) := by decide +kernel
theorem dX2_bestCells_46 : decode cX2_bestCells 46 = .ok (.invokevirtual 50, 3) := by decide +kernel
theorem dX2_bestCells_49 : decode cX2_bestCells 49 = .ok (.iinc 1 1, 3) := by decide +kernel
theorem dX2_bestCells_52 : decode cX2_bestCells 52 = .ok (.goto (-23), 3) := by decide +kernel
theorem dX2_bestCells_55 : decode cX2_bestCells 55 = .ok (.aload_n 0, 1) := by decide +kernel
theorem dX2_bestCells_56 : decode cX2_bestCells 56 = .ok (.iconst 0, 1) := by decide +kernel
theorem dX2_bestCells_57 : decode cX2_bestCells 57 = .ok (.putfield 20, 3) := by decide +kernel
theorem dX2_bestCells_60 : decode cX2_bestCells 60 = .ok (.iconst 0, 1) := by decide +kernel
theorem dX2_bestCells_61 : decode cX2_bestCells 61 = .ok (.istore_n 1, 1) := by decide +kernel
theorem dX2_bestCells_62 : decode cX2_bestCells 62 = .ok (.iconst 1, 1) := by decide +kernel
theorem dX2_bestCells_63 : decode cX2_bestCells 63 = .ok (.istore_n 2, 1) := by decide +kernel
theorem dX2_bestCells_64 : decode cX2_bestCells 64 = .ok (.iload_n 2, 1) := by decide +kernel
theorem dX2_bestCells_65 : decode cX2_bestCells 65 = .ok (.iconst 4, 1) := by decide +kernel
theorem dX2_bestCells_66 : decode cX2_bestCells 66 = .ok (.if_icmp .ge 49, 3) := by decide +kernel
theorem dX2_bestCells_69 : decode cX2_bestCells 69 = .ok (.aload_n 0, 1) := by decide +kernel
theorem dX2_bestCells_70 : decode cX2_bestCells 70 = .ok (.getfield 24, 3) := by decide +kernel
theorem dX2_bestCells_73 : decode cX2_bestCells 73 = .ok (.iload_n 2, 1) := by decide +kernel
theorem dX2_bestCells_74 : decode cX2_bestCells 74 = .ok (.invokevirtual 46, 3) := by decide +kernel
theorem dX2_bestCells_77 : decode cX2_bestCells 77 = .ok (.aload_n 0, 1) := by decide +kernel
theorem dX2_bestCells_78 : decode cX2_bestCells 78 = .ok (.getfield 27, 3) := by decide +kernel
theorem dX2_bestCells_81 : decode cX2_bestCells 81 = .ok (.iload_n 2, 1) := by decide +kernel
theorem dX2_bestCells_82 : decode cX2_bestCells 82 = .ok (.invokevirtual 46, 3) := by decide +kernel
theorem dX2_bestCells_85 : decode cX2_bestCells 85 = .ok (.aload_n 0, 1) := by decide +kernel
theorem dX2_bestCells_86 : decode cX2_bestCells 86 = .ok (.getfield 24, 3) := by decide +kernel
theorem dX2_bestCells_89 : decode cX2_bestCells 89 = .ok (.iload_n 1, 1) := by decide +kernel
theorem dX2_bestCells_90 : decode cX2_bestCells 90 = .ok (.invokevirtual 46, 3) := by decide +kernel
theorem dX2_bestCells_93 : decode cX2_bestCells 93 = .ok (.aload_n 0, 1) := by decide +kernel
theorem dX2_bestCells_94 : decode cX2_bestCells 94 = .ok (.getfield 27, 3) := by decide +kernel
theorem dX2_bestCells_97 : decode cX2_bestCells 97 = .ok (.iload_n 1, 1) := by decide +kernel
theorem dX2_bestCells_98 : decode cX2_bestCells 98 = .ok (.invokevirtual 46, 3) := by decide +kernel
theorem dX2_bestCells_101 : decode cX2_bestCells 101 = .ok (.invokestatic 53, 3) := by decide +kernel
theorem dX2_bestCells_104 : decode cX2_bestCells 104 = .ok (.ifCond .eq 5, 3) := by decide +kernel
theorem dX2_bestCells_107 : decode cX2_bestCells 107 = .ok (.iload_n 2, 1) := by decide +kernel
theorem dX2_bestCells_108 : decode cX2_bestCells 108 = .ok (.istore_n 1, 1) := by decide +kernel
theorem dX2_bestCells_109 : decode cX2_bestCells 109 = .ok (.iinc 2 1, 3) := by decide +kernel
theorem dX2_bestCells_112 : decode cX2_bestCells 112 = .ok (.goto (-48), 3) := by decide +kernel
theorem dX2_bestCells_115 : decode cX2_bestCells 115 = .ok (.aload_n 0, 1) := by decide +kernel
theorem dX2_bestCells_116 : decode cX2_bestCells 116 = .ok (.getfield 27, 3) := by decide +kernel
theorem dX2_bestCells_119 : decode cX2_bestCells 119 = .ok (.iload_n 1, 1) := by decide +kernel
theorem dX2_bestCells_120 : decode cX2_bestCells 120 = .ok (.invokevirtual 57, 3) := by decide +kernel
theorem dX2_bestCells_123 : decode cX2_bestCells 123 = .ok (.ireturn, 1) := by decide +kernel
set_option maxRecDepth 20000 in
theorem ggX2_goOn_X4_fill : GoodIn wsX2_goOn wsX4_fill := goodIn_r _ [10, 11, 30] (by decide +kernel) (by decide +kernel)
set_option maxRecDepth 20000 in
theorem gX2_goOn_X4_fill : GoodIn wsX2_goOn (wsV RX2 42 RX4 yX4_fill wsX4_fill) := goodIn_app (goodIn_of _ (by decide +kernel)) ggX2_goOn_X4_fill
set_option maxRecDepth 20000 in
theorem ggX2_goOn_X4_at : GoodIn wsX2_goOn wsX4_at := goodIn_r _ [15, 11, 30] (by decide +kernel) (by decide +kernel)
set_option maxRecDepth 20000 in
theorem gX2_goOn_X4_at : GoodIn wsX2_goOn (wsV RX2 46 RX4 yX4_at wsX4_at) := goodIn_app (goodIn_of _ (by decide +kernel)) ggX2_goOn_X4_at
set_option maxRecDepth 20000 in
theorem ggX2_goOn_X2_isBetter : GoodIn wsX2_goOn wsX2_isBetter := goodIn_r _ [19] (by decide +kernel) (by decide +kernel)
set_option maxRecDepth 20000 in
theorem gX2_goOn_X2_isBetter : GoodIn wsX2_goOn (va_wsS RX2 53 yX2_isBetter wsX2_isBetter) := goodIn_app (goodIn_of _ (by decide +kernel)) ggX2_goOn_X2_isBetter
set_option maxRecDepth 20000 in
theorem ggX2_goOn_X4_put : GoodIn wsX2_goOn wsX4_put := goodIn_r _ [23, 11, 30] (by decide +kernel) (by decide +kernel)
set_option maxRecDepth 20000 in
theorem gX2_goOn_X4_put : GoodIn wsX2_goOn (wsV RX2 36 RX4 yX4_put wsX4_put) := goodIn_app (goodIn_of _ (by decide +kernel)) ggX2_goOn_X4_put
theorem dX2_goOn_0 : decode cX2_goOn 0 = .ok (.aload_n 0, 1) := by decide +kernel
theorem dX2_goOn_1 : decode cX2_goOn 1 = .ok (.getfield 30, 3) := by decide +kernel
theorem dX2_goOn_4 : decode cX2_goOn 4 = .ok (.ldc2_w 40, 3) := by decide +kernel
theorem dX2_goOn_7 : decode cX2_goOn 7 = .ok (.invokevirtual 42, 3) := by decide +kernel
theorem dX2_goOn_10 : decode cX2_goOn 10 = .ok (.aload_n 0, 1) := by decide +kernel
theorem dX2_goOn_11 : decode cX2_goOn 11 = .ok (.getfield 33, 3) := by decide +kernel
theorem dX2_goOn_14 : decode cX2_goOn 14 = .ok (.lconst 0, 1) := by decide +kernel
theorem dX2_goOn_15 : decode cX2_goOn 15 = .ok (.invokevirtual 42, 3) := by decide +kernel
theorem dX2_goOn_18 : decode cX2_goOn 18 = .ok (.iconst 0, 1) := by decide +kernel
theorem dX2_goOn_19 : decode cX2_goOn 19 = .ok (.istore_n 3, 1) := by decide +kernel
theorem dX2_goOn_20 : decode cX2_goOn 20 = .ok (.iload_n 3, 1) := by decide +kernel
theorem dX2_goOn_21 : decode cX2_goOn 21 = .ok (.iconst 4, 1) := by decide +kernel
theorem dX2_goOn_22 : decode cX2_goOn 22 = .ok (.if_icmp .ge 130, 3) := by decide +kernel
theorem dX2_goOn_25 : decode cX2_goOn 25 = .ok (.iconst 0, 1) := by decide +kernel
theorem dX2_goOn_26 : decode cX2_goOn 26 = .ok (.istore 4, 2) := by decide +kernel
theorem dX2_goOn_28 : decode cX2_goOn 28 = .ok (.iload 4, 2) := by decide +kernel
theorem dX2_goOn_30 : decode cX2_goOn 30 = .ok (.iconst 2, 1) := by decide +kernel
theorem dX2_goOn_31 : decode cX2_goOn 31 = .ok (.if_icmp .ge 115, 3) := by decide +kernel
theorem dX2_goOn_34 : decode cX2_goOn 34 = .ok (.lload_n 1, 1) := by decide +kernel
theorem dX2_goOn_35 : decode cX2_goOn 35 = .ok (.bipush 10, 2) := by decide +kernel
theorem dX2_goOn_37 : decode cX2_goOn 37 = .ok (.iload 4, 2) := by decide +kernel
theorem dX2_goOn_39 : decode cX2_goOn 39 = .ok (.iload_n 3, 1) := by decide +kernel
theorem dX2_goOn_40 : decode cX2_goOn 40 = .ok (.iconst 1, 1) := by decide +kernel
theorem dX2_goOn_41 : decode cX2_goOn 41 = .ok (.ishr, 1) := by decide +kernel
theorem dX2_goOn_42 : decode cX2_goOn 42 = .ok (.isub, 1) := by decide +kernel
theorem dX2_goOn_43 : decode cX2_goOn 43 = .ok (.imul, 1) := by decide +kernel
theorem dX2_goOn_44 : decode cX2_goOn 44 = .ok (.i2l, 1) := by decide +kernel
theorem dX2_goOn_45 : decode cX2_goOn 45 = .ok (.lsub, 1) := by decide +kernel
theorem dX2_goOn_46 : decode cX2_goOn 46 = .ok (.lstore 5, 2) := by decide +kernel
theorem dX2_goOn_48 : decode cX2_goOn 48 = .ok (.aload_n 0, 1) := by decide +kernel
theorem dX2_goOn_49 : decode cX2_goOn 49 = .ok (.getfield 24, 3) := by decide +kernel
theorem dX2_goOn_52 : decode cX2_goOn 52 = .ok (.iload_n 3, 1) := by decide +kernel
theorem dX2_goOn_53 : decode cX2_goOn 53 = .ok (.invokevirtual 46, 3) := by decide +kernel
theorem dX2_goOn_56 : decode cX2_goOn 56 = .ok (.lload 5, 2) := by decide +kernel
theorem dX2_goOn_58 : decode cX2_goOn 58 = .ok (.lload 5, 2) := by decide +kernel
theorem dX2_goOn_60 : decode cX2_goOn 60 = .ok (.lmul, 1) := by decide +kernel
theorem dX2_goOn_61 : decode cX2_goOn 61 = .ok (.ladd, 1) := by decide +kernel
theorem dX2_goOn_62 : decode cX2_goOn 62 = .ok (.lstore 7, 2) := by decide +kernel
theorem dX2_goOn_64 : decode cX2_goOn 64 = .ok (.aload_n 0, 1) := by decide +kernel
theorem dX2_goOn_65 : decode cX2_goOn 65 = .ok (.getfield 27, 3) := by decide +kernel
theorem dX2_goOn_68 : decode cX2_goOn 68 = .ok (.iload_n 3, 1) := by decide +kernel
theorem dX2_goOn_69 : decode cX2_goOn 69 = .ok (.invokevirtual 46, 3) := by decide +kernel
theorem dX2_goOn_72 : decode cX2_goOn 72 = .ok (.iconst 1, 1) := by decide +kernel
theorem dX2_goOn_73 : decode cX2_goOn 73 = .ok (.lshl, 1) := by decide +kernel
theorem dX2_goOn_74 : decode cX2_goOn 74 = .ok (.iload 4, 2) := by decide +kernel
theorem dX2_goOn_76 : decode cX2_goOn 76 = .ok (.i2l, 1) := by decide +kernel
theorem dX2_goOn_77 : decode cX2_goOn 77 = .ok (.lor, 1) := by decide +kernel
theorem dX2_goOn_78 : decode cX2_goOn 78 = .ok (.lstore 9, 2) := by decide +kernel
theorem dX2_goOn_80 : decode cX2_goOn 80 = .ok (.iload_n 3, 1) := by decide +kernel
theorem dX2_goOn_81 : decode cX2_goOn 81 = .ok (.iconst 1, 1) := by decide +kernel
theorem dX2_goOn_82 : decode cX2_goOn 82 = .ok (.iand, 1) := by decide +kernel
theorem dX2_goOn_83 : decode cX2_goOn 83 = .ok (.iconst 1, 1) := by decide +kernel
theorem dX2_goOn_84 : decode cX2_goOn 84 = .ok (.ishl, 1) := by decide +kernel
theorem dX2_goOn_85 : decode cX2_goOn 85 = .ok (.iload 4, 2) := by decide +kernel
theorem dX2_goOn_87 : decode cX2_goOn 87 = .ok (.ior, 1) := by decide +kernel
theorem dX2_goOn_88 : decode cX2_goOn 88 = .ok (.istore 11, 2) := by decide +kernel
theorem dX2_goOn_90 : decode cX2_goOn 90 = .ok (.lload 7, 2) := by decide +kernel
theorem dX2_goOn_92 : decode cX2_goOn 92 = .ok (.lload 9, 2) := by decide +kernel
theorem dX2_goOn_94 : decode cX2_goOn 94 = .ok (.aload_n 0, 1) := by decide +kernel
theorem dX2_goOn_95 : decode cX2_goOn 95 = .ok (.getfield 30, 3) := by decide +kernel
theorem dX2_goOn_98 : decode cX2_goOn 98 = .ok (.iload 11, 2) := by decide +kernel
theorem dX2_goOn_100 : decode cX2_goOn 100 = .ok (.invokevirtual 46, 3) := by decide +kernel
theorem dX2_goOn_103 : decode cX2_goOn 103 = .ok (.aload_n 0, 1) := by decide +kernel
theorem dX2_goOn_104 : decode cX2_goOn 104 = .ok (.getfield 33, 3) := by decide +kernel
theorem dX2_goOn_107 : decode cX2_goOn 107 = .ok (.iload 11, 2) := by decide +kernel
theorem dX2_goOn_109 : decode cX2_goOn 109 = .ok (.invokevirtual 46, 3) := by decide +kernel
theorem dX2_goOn_112 : decode cX2_goOn 112 = .ok (.invokestatic 53, 3) := by decide +kernel
theorem dX2_goOn_115 : decode cX2_goOn 115 = .ok (.ifCond .eq 25, 3) := by decide +kernel
theorem dX2_goOn_118 : decode cX2_goOn 118 = .ok (.aload_n 0, 1) := by decide +kernel
theorem dX2_goOn_119 : decode cX2_goOn 119 = .ok (.getfield 30, 3) := by decide +kernel
theorem dX2_goOn_122 : decode cX2_goOn 122 = .ok (.iload 11, 2) := by decide +kernel
theorem dX2_goOn_124 : decode cX2_goOn 124 = .ok (.lload 7, 2) := by decide +kernel
theorem dX2_goOn_126 : decode cX2_goOn 126 = .ok (.invokevirtual 36, 3) := by decide +kernel
theorem dX2_goOn_129 : decode cX2_goOn 129 = .ok (.aload_n 0, 1) := by decide +kernel
theorem dX2_goOn_130 : decode cX2_goOn 130 = .ok (.getfield 33, 3) := by decide +kernel
theorem dX2_goOn_133 : decode cX2_goOn 133 = .ok (.iload 11, 2) := by decide +kernel
theorem dX2_goOn_135 : decode cX2_goOn 135 = .ok (.lload 9, 2) := by decide +kernel
theorem dX2_goOn_137 : decode cX2_goOn 137 = .ok (.invokevirtual 36, 3) := by decide +kernel
theorem dX2_goOn_140 : decode cX2_goOn 140 = .ok (.iinc 4 1, 3) := by decide +kernel
theorem dX2_goOn_143 : decode cX2_goOn 143 = .ok (.goto (-115), 3) := by decide +kernel
theorem dX2_goOn_146 : decode cX2_goOn 146 = .ok (.iinc 3 1, 3) := by decide +kernel
theorem dX2_goOn_149 : decode cX2_goOn 149 = .ok (.goto (-129), 3) := by decide +kernel
theorem dX2_goOn_152 : decode cX2_goOn 152 = .ok (.iconst 0, 1) := by decide +kernel
theorem dX2_goOn_153 : decode cX2_goOn 153 = .ok (.istore_n 3, 1) := by decide +kernel
theorem dX2_goOn_154 : decode cX2_goOn 154 = .ok (.iload_n 3, 1) := by decide +kernel
theorem dX2_goOn_155 : decode cX2_goOn 155 = .ok (.iconst 4, 1) := by decide +kernel
theorem dX2_goOn_156 : decode cX2_goOn 156 = .ok (.if_icmp .ge 41, 3) := by decide +kernel
theorem dX2_goOn_159 : decode cX2_goOn 159 = .ok (.aload_n 0, 1) := by decide +kernel
theorem dX2_goOn_160 : decode cX2_goOn 160 = .ok (.getfield 24, 3) := by decide +kernel
theorem dX2_goOn_163 : decode cX2_goOn 163 = .ok (.iload_n 3, 1) := by decide +kernel
theorem dX2_goOn_164 : decode cX2_goOn 164 = .ok (.aload_n 0, 1) := by decide +kernel
theorem dX2_goOn_165 : decode cX2_goOn 165 = .ok (.getfield 30, 3) := by decide +kernel
theorem dX2_goOn_168 : decode cX2_goOn 168 = .ok (.iload_n 3, 1) := by decide +kernel
theorem dX2_goOn_169 : decode cX2_goOn 169 = .ok (.invokevirtual 46, 3) := by decide +kernel
theorem dX2_goOn_172 : decode cX2_goOn 172 = .ok (.invokevirtual 36, 3) := by decide +kernel
theorem dX2_goOn_175 : decode cX2_goOn 175 = .ok (.aload_n 0, 1) := by decide +kernel
theorem dX2_goOn_176 : decode cX2_goOn 176 = .ok (.getfield 27, 3) := by decide +kernel
theorem dX2_goOn_179 : decode cX2_goOn 179 = .ok (.iload_n 3, 1) := by decide +kernel
theorem dX2_goOn_180 : decode cX2_goOn 180 = .ok (.aload_n 0, 1) := by decide +kernel
theorem dX2_goOn_181 : decode cX2_goOn 181 = .ok (.getfield 33, 3) := by decide +kernel
theorem dX2_goOn_184 : decode cX2_goOn 184 = .ok (.iload_n 3, 1) := by decide +kernel
theorem dX2_goOn_185 : decode cX2_goOn 185 = .ok (.invokevirtual 46, 3) := by decide +kernel
theorem dX2_goOn_188 : decode cX2_goOn 188 = .ok (.invokevirtual 36, 3) := by decide +kernel
theorem dX2_goOn_191 : decode cX2_goOn 191 = .ok (.iinc 3 1, 3) := by decide +kernel
theorem dX2_goOn_194 : decode cX2_goOn 194 = .ok (.goto (-40), 3) := by decide +kernel
theorem dX2_goOn_197 : decode cX2_goOn 197 = .ok (.return_, 1) := by decide +kernel
theorem dX2_isBetter_0 : decode cX2_isBetter 0 = .ok (.lload_n 0, 1) := by decide +kernel
theorem dX2_isBetter_1 : decode cX2_isBetter 1 = .ok (.lload 4, 2) := by decide +kernel
theorem dX2_isBetter_3 : decode cX2_isBetter 3 = .ok (.lcmp, 1) := by decide +kernel
theorem dX2_isBetter_4 : decode cX2_isBetter 4 = .ok (.ifCond .lt 17, 3) := by decide +kernel
theorem dX2_isBetter_7 : decode cX2_isBetter 7 = .ok (.lload_n 0, 1) := by decide +kernel
theorem dX2_isBetter_8 : decode cX2_isBetter 8 = .ok (.lload 4, 2) := by decide +kernel
theorem dX2_isBetter_10 : decode cX2_isBetter 10 = .ok (.lcmp, 1) := by decide +kernel
theorem dX2_isBetter_11 : decode cX2_isBetter 11 = .ok (.ifCond .ne 14, 3) := by decide +kernel
theorem dX2_isBetter_14 : decode cX2_isBetter 14 = .ok (.lload_n 2, 1) := by decide +kernel
theorem dX2_isBetter_15 : decode cX2_isBetter 15 = .ok (.lload 6, 2) := by decide +kernel
theorem dX2_isBetter_17 : decode cX2_isBetter 17 = .ok (.lcmp, 1) := by decide +kernel
theorem dX2_isBetter_18 : decode cX2_isBetter 18 = .ok (.ifCond .ge 7, 3) := by decide +kernel
theorem dX2_isBetter_21 : decode cX2_isBetter 21 = .ok (.iconst 1, 1) := by decide +kernel
theorem dX2_isBetter_22 : decode cX2_isBetter 22 = .ok (.goto 4, 3) := by decide +kernel
theorem dX2_isBetter_25 : decode cX2_isBetter 25 = .ok (.iconst 0, 1) := by decide +kernel
theorem dX2_isBetter_26 : decode cX2_isBetter 26 = .ok (.ireturn, 1) := by decide +kernel
set_option maxRecDepth 20000 in
theorem ggX3_init_X6_init : GoodIn wsX3_init wsX6_init := goodIn_r _ [26, 27, 2, 3, 28, 10, 11, 29, 30, 31, 32, 33, 34, 35, 36, 37, 38, 39, 40, 41, 59, 44, 45] (by decide +kernel) (by decide +kernel)
set_option maxRecDepth 20000 in
theorem gX3_init_X6_init : GoodIn wsX3_init (wsX6_init) := ggX3_init_X6_init
set_option maxRecDepth 20000 in
theorem ggX3_init_X4_init : GoodIn wsX3_init wsX4_init := goodIn_r _ [34, 35, 2, 3, 36, 37, 59] (by decide +kernel) (by decide +kernel)
set_option maxRecDepth 20000 in
theorem gX3_init_X4_init : GoodIn wsX3_init (wsX4_init) := ggX3_init_X4_init
set_option maxRecDepth 20000 in
theorem ggX3_init_X4_fill : GoodIn wsX3_init wsX4_fill := goodIn_r _ [41, 37, 59] (by decide +kernel) (by decide +kernel)
set_option maxRecDepth 20000 in
theorem gX3_init_X4_fill : GoodIn wsX3_init (wsV RX3 64 RX4 yX4_fill wsX4_fill) := goodIn_app (goodIn_of _ (by decide +kernel)) ggX3_init_X4_fill
theorem dX3_init_0 : decode cX3_init 0 = .ok (.aload_n 0, 1) := by decide +kernel
theorem dX3_init_1 : decode cX3_init 1 = .ok (.invokespecial 3, 3) := by decide +kernel
theorem dX3_init_4 : decode cX3_init 4 = .ok (.aload_n 0, 1) := by decide +kernel
theorem dX3_init_5 : decode cX3_init 5 = .ok (.new 9, 3) := by decide +kernel
theorem dX3_init_8 : decode cX3_init 8 = .ok (.dup, 1) := by decide +kernel
theorem dX3_init_9 : decode cX3_init 9 = .ok (.invokespecial 11, 3) := by decide +kernel
theorem dX3_init_12 : decode cX3_init 12 = .ok (.putfield 12, 3) := by decide +kernel
theorem dX3_init_15 : decode cX3_init 15 = .ok (.aload_n 0, 1) := by decide +kernel
theorem dX3_init_16 : decode cX3_init 16 = .ok (.new 9, 3) := by decide +kernel
theorem dX3_init_19 : decode cX3_init 19 = .ok (.dup, 1) := by decide +kernel
theorem dX3_init_20 : decode cX3_init 20 = .ok (.invokespecial 11, 3) := by decide +kernel
theorem dX3_init_23 : decode cX3_init 23 = .ok (.putfield 18, 3) := by decide +kernel
theorem dX3_init_26 : decode cX3_init 26 = .ok (.aload_n 0, 1) := by decide +kernel
theorem dX3_init_27 : decode cX3_init 27 = .ok (.new 21, 3) := by decide +kernel
theorem dX3_init_30 : decode cX3_init 30 = .ok (.dup, 1) := by decide +kernel
theorem dX3_init_31 : decode cX3_init 31 = .ok (.iconst 3, 1) := by decide +kernel
theorem dX3_init_32 : decode cX3_init 32 = .ok (.invokespecial 23, 3) := by decide +kernel
theorem dX3_init_35 : decode cX3_init 35 = .ok (.putfield 26, 3) := by decide +kernel
theorem dX3_init_38 : decode cX3_init 38 = .ok (.aload_n 0, 1) := by decide +kernel
theorem dX3_init_39 : decode cX3_init 39 = .ok (.new 21, 3) := by decide +kernel
theorem dX3_init_42 : decode cX3_init 42 = .ok (.dup, 1) := by decide +kernel
theorem dX3_init_43 : decode cX3_init 43 = .ok (.bipush 60, 2) := by decide +kernel
theorem dX3_init_45 : decode cX3_init 45 = .ok (.invokespecial 23, 3) := by decide +kernel
theorem dX3_init_48 : decode cX3_init 48 = .ok (.putfield 30, 3) := by decide +kernel
theorem dX3_init_51 : decode cX3_init 51 = .ok (.aload_n 0, 1) := by decide +kernel
theorem dX3_init_52 : decode cX3_init 52 = .ok (.new 21, 3) := by decide +kernel
theorem dX3_init_55 : decode cX3_init 55 = .ok (.dup, 1) := by decide +kernel
theorem dX3_init_56 : decode cX3_init 56 = .ok (.bipush 60, 2) := by decide +kernel
theorem dX3_init_58 : decode cX3_init 58 = .ok (.invokespecial 23, 3) := by decide +kernel
theorem dX3_init_61 : decode cX3_init 61 = .ok (.putfield 33, 3) := by decide +kernel
theorem dX3_init_64 : decode cX3_init 64 = .ok (.aload_n 0, 1) := by decide +kernel
theorem dX3_init_65 : decode cX3_init 65 = .ok (.new 21, 3) := by decide +kernel
theorem dX3_init_68 : decode cX3_init 68 = .ok (.dup, 1) := by decide +kernel
theorem dX3_init_69 : decode cX3_init 69 = .ok (.bipush 60, 2) := by decide +kernel
theorem dX3_init_71 : decode cX3_init 71 = .ok (.invokespecial 23, 3) := by decide +kernel
theorem dX3_init_74 : decode cX3_init 74 = .ok (.putfield 36, 3) := by decide +kernel
theorem dX3_init_77 : decode cX3_init 77 = .ok (.aload_n 0, 1) := by decide +kernel
theorem dX3_init_78 : decode cX3_init 78 = .ok (.new 21, 3) := by decide +kernel
theorem dX3_init_81 : decode cX3_init 81 = .ok (.dup, 1) := by decide +kernel
theorem dX3_init_82 : decode cX3_init 82 = .ok (.bipush 60, 2) := by decide +kernel
theorem dX3_init_84 : decode cX3_init 84 = .ok (.invokespecial 23, 3) := by decide +kernel
theorem dX3_init_87 : decode cX3_init 87 = .ok (.putfield 39, 3) := by decide +kernel
theorem dX3_init_90 : decode cX3_init 90 = .ok (.aload_n 0, 1) := by decide +kernel
theorem dX3_init_91 : decode cX3_init 91 = .ok (.new 21, 3) := by decide +kernel
theorem dX3_init_94 : decode cX3_init 94 = .ok (.dup, 1) := by decide +kernel
theorem dX3_init_95 : decode cX3_init 95 = .ok (.bipush 60, 2) := by decide +kernel
theorem dX3_init_97 : decode cX3_init 97 = .ok (.invokespecial 23, 3) := by decide +kernel
theorem dX3_init_100 : decode cX3_init 100 = .ok (.putfield 42, 3) := by decide +kernel
theorem dX3_init_103 : decode cX3_init 103 = .ok (.aload_n 0, 1) := by decide +kernel
theorem dX3_init_104 : decode cX3_init 104 = .ok (.iconst 0, 1) := by decide +kernel
theorem dX3_init_105 : decode cX3_init 105 = .ok (.putfield 45, 3) := by decide +kernel
theorem dX3_init_108 : decode cX3_init 108 = .ok (.aload_n 0, 1) := by decide +kernel
theorem dX3_init_109 : decode cX3_init 109 = .ok (.iconst 0, 1) := by decide +kernel
theorem dX3_init_110 : decode cX3_init 110 = .ok (.putfield 49, 3) := by decide +kernel
theorem dX3_init_113 : decode cX3_init 113 = .ok (.aload_n 0, 1) := by decide +kernel
theorem dX3_init_114 : decode cX3_init 114 = .ok (.iconst 0, 1) := by decide +kernel
theorem dX3_init_115 : decode cX3_init 115 = .ok (.putfield 53, 3) := by decide +kernel
theorem dX3_init_118 : decode cX3_init 118 = .ok (.aload_n 0, 1) := by decide +kernel
theorem dX3_init_119 : decode cX3_init 119 = .ok (.iconst 0, 1) := by decide +kernel
theorem dX3_init_120 : decode cX3_init 120 = .ok (.putfield 56, 3) := by decide +kernel
theorem dX3_init_123 : decode cX3_init 123 = .ok (.aload_n 0, 1) := by decide +kernel
theorem dX3_init_124 : decode cX3_init 124 = .ok (.iconst 0, 1) := by decide +kernel
theorem dX3_init_125 : decode cX3_init 125 = .ok (.putfield 59, 3) := by decide +kernel
theorem dX3_init_128 : decode cX3_init 128 = .ok (.aload_n 0, 1) := by decide +kernel
theorem dX3_init_129 : decode cX3_init 129 = .ok (.getfield 39, 3) := by decide +kernel
theorem dX3_init_132 : decode cX3_init 132 = .ok (.ldc2_w 62, 3) := by decide +kernel
theorem dX3_init_135 : decode cX3_init 135 = .ok (.invokevirtual 64, 3) := by decide +kernel
theorem dX3_init_138 : decode cX3_init 138 = .ok (.return_, 1) := by decide +kernel
set_option maxRecDepth 20000 in
theorem ggX3_endOf_X4_intAt : GoodIn wsX3_endOf wsX4_intAt := goodIn_r _ [6, 7, 8, 9, 5, 10, 11, 25] (by decide +kernel) (by decide +kernel)
set_option maxRecDepth 20000 in
theorem gX3_endOf_X4_intAt : GoodIn wsX3_endOf (wsV RX3 68 RX4 yX4_intAt wsX4_intAt) := goodIn_app (goodIn_of _ (by decide +kernel)) ggX3_endOf_X4_intAt
theorem dX3_endOf_0 : decode cX3_endOf 0 = .ok (.aload_n 0, 1) := by decide +kernel
theorem dX3_endOf_1 : decode cX3_endOf 1 = .ok (.getfield 26, 3) := by decide +kernel
theorem dX3_endOf_4 : decode cX3_endOf 4 = .ok (.iload_n 1, 1) := by decide +kernel
theorem dX3_endOf_5 : decode cX3_endOf 5 = .ok (.invokevirtual 68, 3) := by decide +kernel
theorem dX3_endOf_8 : decode cX3_endOf 8 = .ok (.ireturn, 1) := by decide +kernel
set_option maxRecDepth 20000 in
theorem ggX3_newestStore_X6_has : GoodIn wsX3_newestStore wsX6_has := goodIn_r _ [7, 8, 9, 10, 11, 12, 13, 14, 15, 29, 30, 31] (by decide +kernel) (by decide +kernel)
set_option maxRecDepth 20000 in
theorem gX3_newestStore_X6_has : GoodIn wsX3_newestStore (wsV RX3 76 RX6 yX6_has wsX6_has) := goodIn_app (goodIn_of _ (by decide +kernel)) ggX3_newestStore_X6_has
theorem dX3_newestStore_0 : decode cX3_newestStore 0 = .ok (.aload_n 0, 1) := by decide +kernel
theorem dX3_newestStore_1 : decode cX3_newestStore 1 = .ok (.getfield 18, 3) := by decide +kernel
theorem dX3_newestStore_4 : decode cX3_newestStore 4 = .ok (.iload_n 1, 1) := by decide +kernel
theorem dX3_newestStore_5 : decode cX3_newestStore 5 = .ok (.invokevirtual 76, 3) := by decide +kernel
theorem dX3_newestStore_8 : decode cX3_newestStore 8 = .ok (.ifCond .eq 10, 3) := by decide +kernel
theorem dX3_newestStore_11 : decode cX3_newestStore 11 = .ok (.aload_n 0, 1) := by decide +kernel
theorem dX3_newestStore_12 : decode cX3_newestStore 12 = .ok (.getfield 18, 3) := by decide +kernel
theorem dX3_newestStore_15 : decode cX3_newestStore 15 = .ok (.goto 7, 3) := by decide +kernel
theorem dX3_newestStore_18 : decode cX3_newestStore 18 = .ok (.aload_n 0, 1) := by decide +kernel
theorem dX3_newestStore_19 : decode cX3_newestStore 19 = .ok (.getfield 12, 3) := by decide +kernel
theorem dX3_newestStore_22 : decode cX3_newestStore 22 = .ok (.areturn, 1) := by decide +kernel
set_option maxRecDepth 20000 in
theorem ggX3_keepsWhatWasSent_X4_at : GoodIn wsX3_keepsWhatWasSent wsX4_at := goodIn_r _ [9, 10, 99] (by decide +kernel) (by decide +kernel)
set_option maxRecDepth 20000 in
theorem gX3_keepsWhatWasSent_X4_at : GoodIn wsX3_keepsWhatWasSent (wsV RX3 145 RX4 yX4_at wsX4_at) := goodIn_app (goodIn_of _ (by decide +kernel)) ggX3_keepsWhatWasSent_X4_at
set_option maxRecDepth 20000 in
theorem ggX3_keepsWhatWasSent_X4_isSet : GoodIn wsX3_keepsWhatWasSent wsX4_isSet := goodIn_r _ [14, 15, 6, 7, 8, 9, 10, 99] (by decide +kernel) (by decide +kernel)
set_option maxRecDepth 20000 in
theorem gX3_keepsWhatWasSent_X4_isSet : GoodIn wsX3_keepsWhatWasSent (wsV RX3 80 RX4 yX4_isSet wsX4_isSet) := goodIn_app (goodIn_of _ (by decide +kernel)) ggX3_keepsWhatWasSent_X4_isSet
set_option maxRecDepth 20000 in
theorem ggX3_keepsWhatWasSent_X3_tellsWhatWasSent : GoodIn wsX3_keepsWhatWasSent wsX3_tellsWhatWasSent := goodIn_r _ [20, 2, 1, 21, 22, 23, 19, 24, 25, 26, 27, 28, 29, 30, 31, 32, 33, 34, 6, 7, 8, 9, 10, 35, 36, 37, 38, 39, 40, 41, 42, 43, 44, 45, 46, 47, 15, 48, 49, 50, 51, 52, 53, 54, 55, 56, 57, 58, 59, 60, 61, 62, 63, 64, 65, 66, 67, 68, 69, 70, 71, 72, 73, 74, 75, 76, 77, 78, 79, 80, 81, 82, 83, 84, 85, 5, 86, 87, 88, 89, 90, 91, 92, 93, 94, 95, 96, 97, 98, 100, 101, 99] (by decide +kernel) (by decide +kernel)
set_option maxRecDepth 20000 in
theorem gX3_keepsWhatWasSent_X3_tellsWhatWasSent : GoodIn wsX3_keepsWhatWasSent (wsV RX3 148 RX3 yX3_tellsWhatWasSent wsX3_tellsWhatWasSent) := goodIn_app (goodIn_of _ (by decide +kernel)) ggX3_keepsWhatWasSent_X3_tellsWhatWasSent
theorem dX3_keepsWhatWasSent_0 : decode cX3_keepsWhatWasSent 0 = .ok (.iconst 0, 1) := by decide +kernel
theorem dX3_keepsWhatWasSent_1 : decode cX3_keepsWhatWasSent 1 = .ok (.istore_n 1, 1) := by decide +kernel
theorem dX3_keepsWhatWasSent_2 : decode cX3_keepsWhatWasSent 2 = .ok (.iload_n 1, 1) := by decide +kernel
theorem dX3_keepsWhatWasSent_3 : decode cX3_keepsWhatWasSent 3 = .ok (.bipush 60, 2) := by decide +kernel
theorem dX3_keepsWhatWasSent_5 : decode cX3_keepsWhatWasSent 5 = .ok (.if_icmp .ge 66, 3) := by decide +kernel
theorem dX3_keepsWhatWasSent_8 : decode cX3_keepsWhatWasSent 8 = .ok (.aload_n 0, 1) := by decide +kernel
theorem dX3_keepsWhatWasSent_9 : decode cX3_keepsWhatWasSent 9 = .ok (.getfield 39, 3) := by decide +kernel
theorem dX3_keepsWhatWasSent_12 : decode cX3_keepsWhatWasSent 12 = .ok (.iload_n 1, 1) := by decide +kernel
theorem dX3_keepsWhatWasSent_13 : decode cX3_keepsWhatWasSent 13 = .ok (.invokevirtual 145, 3) := by decide +kernel
theorem dX3_keepsWhatWasSent_16 : decode cX3_keepsWhatWasSent 16 = .ok (.ldc2_w 62, 3) := by decide +kernel
theorem dX3_keepsWhatWasSent_19 : decode cX3_keepsWhatWasSent 19 = .ok (.lcmp, 1) := by decide +kernel
theorem dX3_keepsWhatWasSent_20 : decode cX3_keepsWhatWasSent 20 = .ok (.ifCond .eq 29, 3) := by decide +kernel
theorem dX3_keepsWhatWasSent_23 : decode cX3_keepsWhatWasSent 23 = .ok (.aload_n 0, 1) := by decide +kernel
theorem dX3_keepsWhatWasSent_24 : decode cX3_keepsWhatWasSent 24 = .ok (.getfield 36, 3) := by decide +kernel
theorem dX3_keepsWhatWasSent_27 : decode cX3_keepsWhatWasSent 27 = .ok (.iload_n 1, 1) := by decide +kernel
theorem dX3_keepsWhatWasSent_28 : decode cX3_keepsWhatWasSent 28 = .ok (.invokevirtual 80, 3) := by decide +kernel
theorem dX3_keepsWhatWasSent_31 : decode cX3_keepsWhatWasSent 31 = .ok (.ifCond .ne 18, 3) := by decide +kernel
theorem dX3_keepsWhatWasSent_34 : decode cX3_keepsWhatWasSent 34 = .ok (.aload_n 0, 1) := by decide +kernel
theorem dX3_keepsWhatWasSent_35 : decode cX3_keepsWhatWasSent 35 = .ok (.getfield 42, 3) := by decide +kernel
theorem dX3_keepsWhatWasSent_38 : decode cX3_keepsWhatWasSent 38 = .ok (.iload_n 1, 1) := by decide +kernel
theorem dX3_keepsWhatWasSent_39 : decode cX3_keepsWhatWasSent 39 = .ok (.invokevirtual 80, 3) := by decide +kernel
theorem dX3_keepsWhatWasSent_42 : decode cX3_keepsWhatWasSent 42 = .ok (.ifCond .ne 7, 3) := by decide +kernel
theorem dX3_keepsWhatWasSent_45 : decode cX3_keepsWhatWasSent 45 = .ok (.iconst 1, 1) := by decide +kernel
theorem dX3_keepsWhatWasSent_46 : decode cX3_keepsWhatWasSent 46 = .ok (.goto 4, 3) := by decide +kernel
theorem dX3_keepsWhatWasSent_49 : decode cX3_keepsWhatWasSent 49 = .ok (.iconst 0, 1) := by decide +kernel
theorem dX3_keepsWhatWasSent_50 : decode cX3_keepsWhatWasSent 50 = .ok (.istore_n 2, 1) := by decide +kernel
theorem dX3_keepsWhatWasSent_51 : decode cX3_keepsWhatWasSent 51 = .ok (.iload_n 2, 1) := by decide +kernel
theorem dX3_keepsWhatWasSent_52 : decode cX3_keepsWhatWasSent 52 = .ok (.ifCond .eq 13, 3) := by decide +kernel
theorem dX3_keepsWhatWasSent_55 : decode cX3_keepsWhatWasSent 55 = .ok (.aload_n 0, 1) := by decide +kernel
theorem dX3_keepsWhatWasSent_56 : decode cX3_keepsWhatWasSent 56 = .ok (.iload_n 1, 1) := by decide +kernel
theorem dX3_keepsWhatWasSent_57 : decode cX3_keepsWhatWasSent 57 = .ok (.invokevirtual 148, 3) := by decide +kernel
theorem dX3_keepsWhatWasSent_60 : decode cX3_keepsWhatWasSent 60 = .ok (.ifCond .ne 5, 3) := by decide +kernel
theorem dX3_keepsWhatWasSent_63 : decode cX3_keepsWhatWasSent 63 = .ok (.iconst 0, 1) := by decide +kernel
theorem dX3_keepsWhatWasSent_64 : decode cX3_keepsWhatWasSent 64 = .ok (.ireturn, 1) := by decide +kernel
theorem dX3_keepsWhatWasSent_65 : decode cX3_keepsWhatWasSent 65 = .ok (.iinc 1 1, 3) := by decide +kernel
theorem dX3_keepsWhatWasSent_68 : decode cX3_keepsWhatWasSent 68 = .ok (.goto (-66), 3) := by decide +kernel
theorem dX3_keepsWhatWasSent_71 : decode cX3_keepsWhatWasSent 71 = .ok (.iconst 1, 1) := by decide +kernel
theorem dX3_keepsWhatWasSent_72 : decode cX3_keepsWhatWasSent 72 = .ok (.ireturn, 1) := by decide +kernel
set_option maxRecDepth 20000 in
theorem ggX3_tellsWhatWasSent_X3_newestStore : GoodIn wsX3_tellsWhatWasSent wsX3_newestStore := goodIn_r _ [7, 8, 9, 10, 11, 12, 13, 14, 15, 16, 17, 18, 19, 20, 21, 22, 76, 77, 78, 79, 80, 81, 82, 83, 84, 85, 86, 87, 88, 89, 90, 91] (by decide +kernel) (by decide +kernel)
set_option maxRecDepth 20000 in
theorem gX3_tellsWhatWasSent_X3_newestStore : GoodIn wsX3_tellsWhatWasSent (wsV RX3 121 RX3 yX3_newestStore wsX3_newestStore) := goodIn_app (goodIn_of _ (by decide +kernel)) ggX3_tellsWhatWasSent_X3_newestStore
set_option maxRecDepth 20000 in
theorem ggX3_tellsWhatWasSent_X6_wordOf : GoodIn wsX3_tellsWhatWasSent wsX6_wordOf := goodIn_r _ [26, 15, 17, 18, 19, 20, 21, 22, 89, 90, 91] (by decide +kernel) (by decide +kernel)
set_option maxRecDepth 20000 in
theorem gX3_tellsWhatWasSent_X6_wordOf : GoodIn wsX3_tellsWhatWasSent (wsV RX3 125 RX6 yX6_wordOf wsX6_wordOf) := goodIn_app (goodIn_of _ (by decide +kernel)) ggX3_tellsWhatWasSent_X6_wordOf
set_option maxRecDepth 20000 in
theorem ggX3_tellsWhatWasSent_X6_weakOf : GoodIn wsX3_tellsWhatWasSent wsX6_weakOf := goodIn_r _ [30, 31, 32, 33, 34, 20, 35, 36, 18, 19, 21, 22, 89, 90, 91] (by decide +kernel) (by decide +kernel)
set_option maxRecDepth 20000 in
theorem gX3_tellsWhatWasSent_X6_weakOf : GoodIn wsX3_tellsWhatWasSent (wsV RX3 128 RX6 yX6_weakOf wsX6_weakOf) := goodIn_app (goodIn_of _ (by decide +kernel)) ggX3_tellsWhatWasSent_X6_weakOf
set_option maxRecDepth 20000 in
theorem ggX3_tellsWhatWasSent_X7_repaired : GoodIn wsX3_tellsWhatWasSent wsX7_repaired := goodIn_r _ [40, 41, 42, 43, 39, 44, 45, 46, 47, 48, 49, 50, 51, 52, 53, 54, 55, 56, 57, 58, 59, 60, 61, 62, 63, 64, 65, 66, 67, 68, 69, 70] (by decide +kernel) (by decide +kernel)
set_option maxRecDepth 20000 in
theorem gX3_tellsWhatWasSent_X7_repaired : GoodIn wsX3_tellsWhatWasSent (va_wsS RX3 131 yX7_repaired wsX7_repaired) := goodIn_app (goodIn_of _ (by decide +kernel)) ggX3_tellsWhatWasSent_X7_repaired
set_option maxRecDepth 20000 in
theorem ggX3_tellsWhatWasSent_X6_has : GoodIn wsX3_tellsWhatWasSent wsX6_has := goodIn_r _ [14, 15, 16, 17, 18, 19, 20, 21, 22, 89, 90, 91] (by decide +kernel) (by decide +kernel)
set_option maxRecDepth 20000 in
theorem gX3_tellsWhatWasSent_X6_has : GoodIn wsX3_tellsWhatWasSent (wsV RX3 76 RX6 yX6_has wsX6_has) := goodIn_app (goodIn_of _ (by decide +kernel)) ggX3_tellsWhatWasSent_X6_has
set_option maxRecDepth 20000 in
theorem ggX3_tellsWhatWasSent_X7_valueOf : GoodIn wsX3_tellsWhatWasSent wsX7_valueOf := goodIn_r _ [73, 74] (by decide +kernel) (by decide +kernel)
set_option maxRecDepth 20000 in
theorem gX3_tellsWhatWasSent_X7_valueOf : GoodIn wsX3_tellsWhatWasSent (va_wsS RX3 151 yX7_valueOf wsX7_valueOf) := goodIn_app (goodIn_of _ (by decide +kernel)) ggX3_tellsWhatWasSent_X7_valueOf
set_option maxRecDepth 20000 in
theorem ggX3_tellsWhatWasSent_X4_at : GoodIn wsX3_tellsWhatWasSent wsX4_at := goodIn_r _ [21, 22, 91] (by decide +kernel) (by decide +kernel)
set_option maxRecDepth 20000 in
theorem gX3_tellsWhatWasSent_X4_at : GoodIn wsX3_tellsWhatWasSent (wsV RX3 145 RX4 yX4_at wsX4_at) := goodIn_app (goodIn_of _ (by decide +kernel)) ggX3_tellsWhatWasSent_X4_at
theorem dX3_tellsWhatWasSent_0 : decode cX3_tellsWhatWasSent 0 = .ok (.aload_n 0, 1) := by decide +kernel
theorem dX3_tellsWhatWasSent_1 : decode cX3_tellsWhatWasSent 1 = .ok (.iload_n 1, 1) := by decide +kernel
theorem dX3_tellsWhatWasSent_2 : decode cX3_tellsWhatWasSent 2 = .ok (.invokevirtual 121, 3) := by decide +kernel
theorem dX3_tellsWhatWasSent_5 : decode cX3_tellsWhatWasSent 5 = .ok (.astore_n 2, 1) := by decide +kernel
theorem dX3_tellsWhatWasSent_6 : decode cX3_tellsWhatWasSent 6 = .ok (.aload_n 2, 1) := by decide +kernel
theorem dX3_tellsWhatWasSent_7 : decode cX3_tellsWhatWasSent 7 = .ok (.iload_n 1, 1) := by decide +kernel
theorem dX3_tellsWhatWasSent_8 : decode cX3_tellsWhatWasSent 8 = .ok (.invokevirtual 125, 3) := by decide +kernel
theorem dX3_tellsWhatWasSent_11 : decode cX3_tellsWhatWasSent 11 = .ok (.aload_n 2, 1) := by decide +kernel
theorem dX3_tellsWhatWasSent_12 : decode cX3_tellsWhatWasSent 12 = .ok (.iload_n 1, 1) := by decide +kernel
theorem dX3_tellsWhatWasSent_13 : decode cX3_tellsWhatWasSent 13 = .ok (.invokevirtual 128, 3) := by decide +kernel
theorem dX3_tellsWhatWasSent_16 : decode cX3_tellsWhatWasSent 16 = .ok (.invokestatic 131, 3) := by decide +kernel
theorem dX3_tellsWhatWasSent_19 : decode cX3_tellsWhatWasSent 19 = .ok (.lstore_n 3, 1) := by decide +kernel
theorem dX3_tellsWhatWasSent_20 : decode cX3_tellsWhatWasSent 20 = .ok (.aload_n 2, 1) := by decide +kernel
theorem dX3_tellsWhatWasSent_21 : decode cX3_tellsWhatWasSent 21 = .ok (.iload_n 1, 1) := by decide +kernel
theorem dX3_tellsWhatWasSent_22 : decode cX3_tellsWhatWasSent 22 = .ok (.invokevirtual 76, 3) := by decide +kernel
theorem dX3_tellsWhatWasSent_25 : decode cX3_tellsWhatWasSent 25 = .ok (.ifCond .eq 32, 3) := by decide +kernel
theorem dX3_tellsWhatWasSent_28 : decode cX3_tellsWhatWasSent 28 = .ok (.lload_n 3, 1) := by decide +kernel
theorem dX3_tellsWhatWasSent_29 : decode cX3_tellsWhatWasSent 29 = .ok (.ldc2_w 62, 3) := by decide +kernel
theorem dX3_tellsWhatWasSent_32 : decode cX3_tellsWhatWasSent 32 = .ok (.lcmp, 1) := by decide +kernel
theorem dX3_tellsWhatWasSent_33 : decode cX3_tellsWhatWasSent 33 = .ok (.ifCond .eq 24, 3) := by decide +kernel
theorem dX3_tellsWhatWasSent_36 : decode cX3_tellsWhatWasSent 36 = .ok (.lload_n 3, 1) := by decide +kernel
theorem dX3_tellsWhatWasSent_37 : decode cX3_tellsWhatWasSent 37 = .ok (.invokestatic 151, 3) := by decide +kernel
theorem dX3_tellsWhatWasSent_40 : decode cX3_tellsWhatWasSent 40 = .ok (.i2l, 1) := by decide +kernel
theorem dX3_tellsWhatWasSent_41 : decode cX3_tellsWhatWasSent 41 = .ok (.aload_n 0, 1) := by decide +kernel
theorem dX3_tellsWhatWasSent_42 : decode cX3_tellsWhatWasSent 42 = .ok (.getfield 39, 3) := by decide +kernel
theorem dX3_tellsWhatWasSent_45 : decode cX3_tellsWhatWasSent 45 = .ok (.iload_n 1, 1) := by decide +kernel
theorem dX3_tellsWhatWasSent_46 : decode cX3_tellsWhatWasSent 46 = .ok (.invokevirtual 145, 3) := by decide +kernel
theorem dX3_tellsWhatWasSent_49 : decode cX3_tellsWhatWasSent 49 = .ok (.lcmp, 1) := by decide +kernel
theorem dX3_tellsWhatWasSent_50 : decode cX3_tellsWhatWasSent 50 = .ok (.ifCond .ne 7, 3) := by decide +kernel
theorem dX3_tellsWhatWasSent_53 : decode cX3_tellsWhatWasSent 53 = .ok (.iconst 1, 1) := by decide +kernel
theorem dX3_tellsWhatWasSent_54 : decode cX3_tellsWhatWasSent 54 = .ok (.goto 4, 3) := by decide +kernel
theorem dX3_tellsWhatWasSent_57 : decode cX3_tellsWhatWasSent 57 = .ok (.iconst 0, 1) := by decide +kernel
theorem dX3_tellsWhatWasSent_58 : decode cX3_tellsWhatWasSent 58 = .ok (.ireturn, 1) := by decide +kernel
set_option maxRecDepth 20000 in
theorem ggX3_endsHold_X6_has : GoodIn wsX3_endsHold wsX6_has := goodIn_r _ [6, 7, 8, 9, 10, 11, 12, 13, 14, 39, 40, 41] (by decide +kernel) (by decide +kernel)
set_option maxRecDepth 20000 in
theorem gX3_endsHold_X6_has : GoodIn wsX3_endsHold (wsV RX3 76 RX6 yX6_has wsX6_has) := goodIn_app (goodIn_of _ (by decide +kernel)) ggX3_endsHold_X6_has
set_option maxRecDepth 20000 in
theorem ggX3_endsHold_X3_endOf : GoodIn wsX3_endsHold wsX3_endOf := goodIn_r _ [19, 20, 21, 22, 23, 12, 24, 25, 10, 11, 13, 14, 26, 27, 28, 29, 30, 31, 32, 33, 34, 35, 36, 37, 38, 41] (by decide +kernel) (by decide +kernel)
set_option maxRecDepth 20000 in
theorem gX3_endsHold_X3_endOf : GoodIn wsX3_endsHold (wsV RX3 155 RX3 yX3_endOf wsX3_endOf) := goodIn_app (goodIn_of _ (by decide +kernel)) ggX3_endsHold_X3_endOf
theorem dX3_endsHold_0 : decode cX3_endsHold 0 = .ok (.iconst 0, 1) := by decide +kernel
theorem dX3_endsHold_1 : decode cX3_endsHold 1 = .ok (.istore_n 1, 1) := by decide +kernel
theorem dX3_endsHold_2 : decode cX3_endsHold 2 = .ok (.iload_n 1, 1) := by decide +kernel
theorem dX3_endsHold_3 : decode cX3_endsHold 3 = .ok (.bipush 60, 2) := by decide +kernel
theorem dX3_endsHold_5 : decode cX3_endsHold 5 = .ok (.if_icmp .ge 37, 3) := by decide +kernel
theorem dX3_endsHold_8 : decode cX3_endsHold 8 = .ok (.aload_n 0, 1) := by decide +kernel
theorem dX3_endsHold_9 : decode cX3_endsHold 9 = .ok (.getfield 12, 3) := by decide +kernel
theorem dX3_endsHold_12 : decode cX3_endsHold 12 = .ok (.iload_n 1, 1) := by decide +kernel
theorem dX3_endsHold_13 : decode cX3_endsHold 13 = .ok (.invokevirtual 76, 3) := by decide +kernel
theorem dX3_endsHold_16 : decode cX3_endsHold 16 = .ok (.ifCond .eq 20, 3) := by decide +kernel
theorem dX3_endsHold_19 : decode cX3_endsHold 19 = .ok (.iload_n 1, 1) := by decide +kernel
theorem dX3_endsHold_20 : decode cX3_endsHold 20 = .ok (.bipush 20, 2) := by decide +kernel
theorem dX3_endsHold_22 : decode cX3_endsHold 22 = .ok (.irem, 1) := by decide +kernel
theorem dX3_endsHold_23 : decode cX3_endsHold 23 = .ok (.aload_n 0, 1) := by decide +kernel
theorem dX3_endsHold_24 : decode cX3_endsHold 24 = .ok (.iload_n 1, 1) := by decide +kernel
theorem dX3_endsHold_25 : decode cX3_endsHold 25 = .ok (.bipush 20, 2) := by decide +kernel
theorem dX3_endsHold_27 : decode cX3_endsHold 27 = .ok (.idiv, 1) := by decide +kernel
theorem dX3_endsHold_28 : decode cX3_endsHold 28 = .ok (.invokevirtual 155, 3) := by decide +kernel
theorem dX3_endsHold_31 : decode cX3_endsHold 31 = .ok (.if_icmp .lt 5, 3) := by decide +kernel
theorem dX3_endsHold_34 : decode cX3_endsHold 34 = .ok (.iconst 0, 1) := by decide +kernel
theorem dX3_endsHold_35 : decode cX3_endsHold 35 = .ok (.ireturn, 1) := by decide +kernel
theorem dX3_endsHold_36 : decode cX3_endsHold 36 = .ok (.iinc 1 1, 3) := by decide +kernel
theorem dX3_endsHold_39 : decode cX3_endsHold 39 = .ok (.goto (-37), 3) := by decide +kernel
theorem dX3_endsHold_42 : decode cX3_endsHold 42 = .ok (.iconst 1, 1) := by decide +kernel
theorem dX3_endsHold_43 : decode cX3_endsHold 43 = .ok (.ireturn, 1) := by decide +kernel
theorem dX4_init_0 : decode cX4_init 0 = .ok (.aload_n 0, 1) := by decide +kernel
theorem dX4_init_1 : decode cX4_init 1 = .ok (.invokespecial 1, 3) := by decide +kernel
theorem dX4_init_4 : decode cX4_init 4 = .ok (.aload_n 0, 1) := by decide +kernel
theorem dX4_init_5 : decode cX4_init 5 = .ok (.iload_n 1, 1) := by decide +kernel
theorem dX4_init_6 : decode cX4_init 6 = .ok (.ifCond .ge 7, 3) := by decide +kernel
theorem dX4_init_9 : decode cX4_init 9 = .ok (.iconst 0, 1) := by decide +kernel
theorem dX4_init_10 : decode cX4_init 10 = .ok (.goto 4, 3) := by decide +kernel
theorem dX4_init_13 : decode cX4_init 13 = .ok (.iload_n 1, 1) := by decide +kernel
theorem dX4_init_14 : decode cX4_init 14 = .ok (.newarray .long, 2) := by decide +kernel
theorem dX4_init_16 : decode cX4_init 16 = .ok (.putfield 7, 3) := by decide +kernel
theorem dX4_init_19 : decode cX4_init 19 = .ok (.return_, 1) := by decide +kernel
theorem dX4_at_0 : decode cX4_at 0 = .ok (.iload_n 1, 1) := by decide +kernel
theorem dX4_at_1 : decode cX4_at 1 = .ok (.ifCond .lt 21, 3) := by decide +kernel
theorem dX4_at_4 : decode cX4_at 4 = .ok (.iload_n 1, 1) := by decide +kernel
theorem dX4_at_5 : decode cX4_at 5 = .ok (.aload_n 0, 1) := by decide +kernel
theorem dX4_at_6 : decode cX4_at 6 = .ok (.getfield 7, 3) := by decide +kernel
theorem dX4_at_9 : decode cX4_at 9 = .ok (.arraylength, 1) := by decide +kernel
theorem dX4_at_10 : decode cX4_at 10 = .ok (.if_icmp .ge 12, 3) := by decide +kernel
theorem dX4_at_13 : decode cX4_at 13 = .ok (.aload_n 0, 1) := by decide +kernel
theorem dX4_at_14 : decode cX4_at 14 = .ok (.getfield 7, 3) := by decide +kernel
theorem dX4_at_17 : decode cX4_at 17 = .ok (.iload_n 1, 1) := by decide +kernel
theorem dX4_at_18 : decode cX4_at 18 = .ok (.laload, 1) := by decide +kernel
theorem dX4_at_19 : decode cX4_at 19 = .ok (.goto 4, 3) := by decide +kernel
theorem dX4_at_22 : decode cX4_at 22 = .ok (.lconst 0, 1) := by decide +kernel
theorem dX4_at_23 : decode cX4_at 23 = .ok (.lreturn, 1) := by decide +kernel
set_option maxRecDepth 20000 in
theorem ggX4_intAt_X4_at : GoodIn wsX4_intAt wsX4_at := goodIn_r _ [5, 6, 7] (by decide +kernel) (by decide +kernel)
set_option maxRecDepth 20000 in
theorem gX4_intAt_X4_at : GoodIn wsX4_intAt (wsV RX4 13 RX4 yX4_at wsX4_at) := goodIn_app (goodIn_of _ (by decide +kernel)) ggX4_intAt_X4_at
theorem dX4_intAt_0 : decode cX4_intAt 0 = .ok (.aload_n 0, 1) := by decide +kernel
theorem dX4_intAt_1 : decode cX4_intAt 1 = .ok (.iload_n 1, 1) := by decide +kernel
theorem dX4_intAt_2 : decode cX4_intAt 2 = .ok (.invokevirtual 13, 3) := by decide +kernel
theorem dX4_intAt_5 : decode cX4_intAt 5 = .ok (.l2i, 1) := by decide +kernel
theorem dX4_intAt_6 : decode cX4_intAt 6 = .ok (.ireturn, 1) := by decide +kernel
theorem dX4_put_0 : decode cX4_put 0 = .ok (.iload_n 1, 1) := by decide +kernel
theorem dX4_put_1 : decode cX4_put 1 = .ok (.ifCond .lt 19, 3) := by decide +kernel
theorem dX4_put_4 : decode cX4_put 4 = .ok (.iload_n 1, 1) := by decide +kernel
theorem dX4_put_5 : decode cX4_put 5 = .ok (.aload_n 0, 1) := by decide +kernel
theorem dX4_put_6 : decode cX4_put 6 = .ok (.getfield 7, 3) := by decide +kernel
theorem dX4_put_9 : decode cX4_put 9 = .ok (.arraylength, 1) := by decide +kernel
theorem dX4_put_10 : decode cX4_put 10 = .ok (.if_icmp .ge 10, 3) := by decide +kernel
theorem dX4_put_13 : decode cX4_put 13 = .ok (.aload_n 0, 1) := by decide +kernel
theorem dX4_put_14 : decode cX4_put 14 = .ok (.getfield 7, 3) := by decide +kernel
theorem dX4_put_17 : decode cX4_put 17 = .ok (.iload_n 1, 1) := by decide +kernel
theorem dX4_put_18 : decode cX4_put 18 = .ok (.lload_n 2, 1) := by decide +kernel
theorem dX4_put_19 : decode cX4_put 19 = .ok (.lastore, 1) := by decide +kernel
theorem dX4_put_20 : decode cX4_put 20 = .ok (.return_, 1) := by decide +kernel
theorem dX4_fill_0 : decode cX4_fill 0 = .ok (.iconst 0, 1) := by decide +kernel
theorem dX4_fill_1 : decode cX4_fill 1 = .ok (.istore_n 3, 1) := by decide +kernel
theorem dX4_fill_2 : decode cX4_fill 2 = .ok (.iload_n 3, 1) := by decide +kernel
theorem dX4_fill_3 : decode cX4_fill 3 = .ok (.aload_n 0, 1) := by decide +kernel
theorem dX4_fill_4 : decode cX4_fill 4 = .ok (.getfield 7, 3) := by decide +kernel
theorem dX4_fill_7 : decode cX4_fill 7 = .ok (.arraylength, 1) := by decide +kernel
theorem dX4_fill_8 : decode cX4_fill 8 = .ok (.if_icmp .ge 16, 3) := by decide +kernel
theorem dX4_fill_11 : decode cX4_fill 11 = .ok (.aload_n 0, 1) := by decide +kernel
theorem dX4_fill_12 : decode cX4_fill 12 = .ok (.getfield 7, 3) := by decide +kernel
theorem dX4_fill_15 : decode cX4_fill 15 = .ok (.iload_n 3, 1) := by decide +kernel
theorem dX4_fill_16 : decode cX4_fill 16 = .ok (.lload_n 1, 1) := by decide +kernel
theorem dX4_fill_17 : decode cX4_fill 17 = .ok (.lastore, 1) := by decide +kernel
theorem dX4_fill_18 : decode cX4_fill 18 = .ok (.iinc 3 1, 3) := by decide +kernel
theorem dX4_fill_21 : decode cX4_fill 21 = .ok (.goto (-19), 3) := by decide +kernel
theorem dX4_fill_24 : decode cX4_fill 24 = .ok (.return_, 1) := by decide +kernel
set_option maxRecDepth 20000 in
theorem ggX4_isSet_X4_at : GoodIn wsX4_isSet wsX4_at := goodIn_r _ [5, 6, 7] (by decide +kernel) (by decide +kernel)
set_option maxRecDepth 20000 in
theorem gX4_isSet_X4_at : GoodIn wsX4_isSet (wsV RX4 13 RX4 yX4_at wsX4_at) := goodIn_app (goodIn_of _ (by decide +kernel)) ggX4_isSet_X4_at
theorem dX4_isSet_0 : decode cX4_isSet 0 = .ok (.aload_n 0, 1) := by decide +kernel
theorem dX4_isSet_1 : decode cX4_isSet 1 = .ok (.iload_n 1, 1) := by decide +kernel
theorem dX4_isSet_2 : decode cX4_isSet 2 = .ok (.invokevirtual 13, 3) := by decide +kernel
theorem dX4_isSet_5 : decode cX4_isSet 5 = .ok (.lconst 0, 1) := by decide +kernel
theorem dX4_isSet_6 : decode cX4_isSet 6 = .ok (.lcmp, 1) := by decide +kernel
theorem dX4_isSet_7 : decode cX4_isSet 7 = .ok (.ifCond .eq 7, 3) := by decide +kernel
theorem dX4_isSet_10 : decode cX4_isSet 10 = .ok (.iconst 1, 1) := by decide +kernel
theorem dX4_isSet_11 : decode cX4_isSet 11 = .ok (.goto 4, 3) := by decide +kernel
theorem dX4_isSet_14 : decode cX4_isSet 14 = .ok (.iconst 0, 1) := by decide +kernel
theorem dX4_isSet_15 : decode cX4_isSet 15 = .ok (.ireturn, 1) := by decide +kernel
set_option maxRecDepth 20000 in
theorem ggX5_init_X4_init : GoodIn wsX5_init wsX4_init := goodIn_r _ [16, 17, 2, 3, 18, 19, 20] (by decide +kernel) (by decide +kernel)
set_option maxRecDepth 20000 in
theorem gX5_init_X4_init : GoodIn wsX5_init (wsX4_init) := ggX5_init_X4_init
theorem dX5_init_0 : decode cX5_init 0 = .ok (.aload_n 0, 1) := by decide +kernel
theorem dX5_init_1 : decode cX5_init 1 = .ok (.invokespecial 3, 3) := by decide +kernel
theorem dX5_init_4 : decode cX5_init 4 = .ok (.aload_n 0, 1) := by decide +kernel
theorem dX5_init_5 : decode cX5_init 5 = .ok (.new 9, 3) := by decide +kernel
theorem dX5_init_8 : decode cX5_init 8 = .ok (.dup, 1) := by decide +kernel
theorem dX5_init_9 : decode cX5_init 9 = .ok (.bipush 8, 2) := by decide +kernel
theorem dX5_init_11 : decode cX5_init 11 = .ok (.invokespecial 11, 3) := by decide +kernel
theorem dX5_init_14 : decode cX5_init 14 = .ok (.putfield 14, 3) := by decide +kernel
theorem dX5_init_17 : decode cX5_init 17 = .ok (.aload_n 0, 1) := by decide +kernel
theorem dX5_init_18 : decode cX5_init 18 = .ok (.new 9, 3) := by decide +kernel
theorem dX5_init_21 : decode cX5_init 21 = .ok (.dup, 1) := by decide +kernel
theorem dX5_init_22 : decode cX5_init 22 = .ok (.bipush 8, 2) := by decide +kernel
theorem dX5_init_24 : decode cX5_init 24 = .ok (.invokespecial 11, 3) := by decide +kernel
theorem dX5_init_27 : decode cX5_init 27 = .ok (.putfield 20, 3) := by decide +kernel
theorem dX5_init_30 : decode cX5_init 30 = .ok (.aload_n 0, 1) := by decide +kernel
theorem dX5_init_31 : decode cX5_init 31 = .ok (.iconst 0, 1) := by decide +kernel
theorem dX5_init_32 : decode cX5_init 32 = .ok (.putfield 23, 3) := by decide +kernel
theorem dX5_init_35 : decode cX5_init 35 = .ok (.aload_n 0, 1) := by decide +kernel
theorem dX5_init_36 : decode cX5_init 36 = .ok (.iconst 0, 1) := by decide +kernel
theorem dX5_init_37 : decode cX5_init 37 = .ok (.putfield 27, 3) := by decide +kernel
theorem dX5_init_40 : decode cX5_init 40 = .ok (.aload_n 0, 1) := by decide +kernel
theorem dX5_init_41 : decode cX5_init 41 = .ok (.iconst 0, 1) := by decide +kernel
theorem dX5_init_42 : decode cX5_init 42 = .ok (.putfield 30, 3) := by decide +kernel
theorem dX5_init_45 : decode cX5_init 45 = .ok (.aload_n 0, 1) := by decide +kernel
theorem dX5_init_46 : decode cX5_init 46 = .ok (.iconst 0, 1) := by decide +kernel
theorem dX5_init_47 : decode cX5_init 47 = .ok (.putfield 33, 3) := by decide +kernel
theorem dX5_init_50 : decode cX5_init 50 = .ok (.aload_n 0, 1) := by decide +kernel
theorem dX5_init_51 : decode cX5_init 51 = .ok (.iconst 0, 1) := by decide +kernel
theorem dX5_init_52 : decode cX5_init 52 = .ok (.putfield 36, 3) := by decide +kernel
theorem dX5_init_55 : decode cX5_init 55 = .ok (.return_, 1) := by decide +kernel
set_option maxRecDepth 20000 in
theorem ggX6_init_X4_init : GoodIn wsX6_init wsX4_init := goodIn_r _ [12, 13, 2, 3, 14, 15, 20] (by decide +kernel) (by decide +kernel)
set_option maxRecDepth 20000 in
theorem gX6_init_X4_init : GoodIn wsX6_init (wsX4_init) := ggX6_init_X4_init
set_option maxRecDepth 20000 in
theorem ggX6_init_X4_fill : GoodIn wsX6_init wsX4_fill := goodIn_r _ [19, 15, 20] (by decide +kernel) (by decide +kernel)
set_option maxRecDepth 20000 in
theorem gX6_init_X4_fill : GoodIn wsX6_init (wsV RX6 25 RX4 yX4_fill wsX4_fill) := goodIn_app (goodIn_of _ (by decide +kernel)) ggX6_init_X4_fill
theorem dX6_init_0 : decode cX6_init 0 = .ok (.aload_n 0, 1) := by decide +kernel
theorem dX6_init_1 : decode cX6_init 1 = .ok (.invokespecial 3, 3) := by decide +kernel
theorem dX6_init_4 : decode cX6_init 4 = .ok (.aload_n 0, 1) := by decide +kernel
theorem dX6_init_5 : decode cX6_init 5 = .ok (.new 9, 3) := by decide +kernel
theorem dX6_init_8 : decode cX6_init 8 = .ok (.dup, 1) := by decide +kernel
theorem dX6_init_9 : decode cX6_init 9 = .ok (.bipush 60, 2) := by decide +kernel
theorem dX6_init_11 : decode cX6_init 11 = .ok (.invokespecial 11, 3) := by decide +kernel
theorem dX6_init_14 : decode cX6_init 14 = .ok (.putfield 14, 3) := by decide +kernel
theorem dX6_init_17 : decode cX6_init 17 = .ok (.aload_n 0, 1) := by decide +kernel
theorem dX6_init_18 : decode cX6_init 18 = .ok (.new 9, 3) := by decide +kernel
theorem dX6_init_21 : decode cX6_init 21 = .ok (.dup, 1) := by decide +kernel
theorem dX6_init_22 : decode cX6_init 22 = .ok (.bipush 60, 2) := by decide +kernel
theorem dX6_init_24 : decode cX6_init 24 = .ok (.invokespecial 11, 3) := by decide +kernel
theorem dX6_init_27 : decode cX6_init 27 = .ok (.putfield 20, 3) := by decide +kernel
theorem dX6_init_30 : decode cX6_init 30 = .ok (.aload_n 0, 1) := by decide +kernel
theorem dX6_init_31 : decode cX6_init 31 = .ok (.getfield 14, 3) := by decide +kernel
theorem dX6_init_34 : decode cX6_init 34 = .ok (.ldc2_w 23, 3) := by decide +kernel
theorem dX6_init_37 : decode cX6_init 37 = .ok (.invokevirtual 25, 3) := by decide +kernel
theorem dX6_init_40 : decode cX6_init 40 = .ok (.return_, 1) := by decide +kernel
set_option maxRecDepth 20000 in
theorem ggX6_has_X4_at : GoodIn wsX6_has wsX4_at := goodIn_r _ [7, 8, 11] (by decide +kernel) (by decide +kernel)
set_option maxRecDepth 20000 in
theorem gX6_has_X4_at : GoodIn wsX6_has (wsV RX6 29 RX4 yX4_at wsX4_at) := goodIn_app (goodIn_of _ (by decide +kernel)) ggX6_has_X4_at
theorem dX6_has_0 : decode cX6_has 0 = .ok (.aload_n 0, 1) := by decide +kernel
theorem dX6_has_1 : decode cX6_has 1 = .ok (.getfield 14, 3) := by decide +kernel
theorem dX6_has_4 : decode cX6_has 4 = .ok (.iload_n 1, 1) := by decide +kernel
theorem dX6_has_5 : decode cX6_has 5 = .ok (.invokevirtual 29, 3) := by decide +kernel
theorem dX6_has_8 : decode cX6_has 8 = .ok (.ldc2_w 23, 3) := by decide +kernel
theorem dX6_has_11 : decode cX6_has 11 = .ok (.lcmp, 1) := by decide +kernel
theorem dX6_has_12 : decode cX6_has 12 = .ok (.ifCond .eq 7, 3) := by decide +kernel
theorem dX6_has_15 : decode cX6_has 15 = .ok (.iconst 1, 1) := by decide +kernel
theorem dX6_has_16 : decode cX6_has 16 = .ok (.goto 4, 3) := by decide +kernel
theorem dX6_has_19 : decode cX6_has 19 = .ok (.iconst 0, 1) := by decide +kernel
theorem dX6_has_20 : decode cX6_has 20 = .ok (.ireturn, 1) := by decide +kernel
set_option maxRecDepth 20000 in
theorem ggX6_wordOf_X4_at : GoodIn wsX6_wordOf wsX4_at := goodIn_r _ [6, 7, 10] (by decide +kernel) (by decide +kernel)
set_option maxRecDepth 20000 in
theorem gX6_wordOf_X4_at : GoodIn wsX6_wordOf (wsV RX6 29 RX4 yX4_at wsX4_at) := goodIn_app (goodIn_of _ (by decide +kernel)) ggX6_wordOf_X4_at
theorem dX6_wordOf_0 : decode cX6_wordOf 0 = .ok (.aload_n 0, 1) := by decide +kernel
theorem dX6_wordOf_1 : decode cX6_wordOf 1 = .ok (.getfield 14, 3) := by decide +kernel
theorem dX6_wordOf_4 : decode cX6_wordOf 4 = .ok (.iload_n 1, 1) := by decide +kernel
theorem dX6_wordOf_5 : decode cX6_wordOf 5 = .ok (.invokevirtual 29, 3) := by decide +kernel
theorem dX6_wordOf_8 : decode cX6_wordOf 8 = .ok (.lreturn, 1) := by decide +kernel
set_option maxRecDepth 20000 in
theorem ggX6_weakOf_X4_intAt : GoodIn wsX6_weakOf wsX4_intAt := goodIn_r _ [6, 7, 8, 9, 5, 10, 11, 14] (by decide +kernel) (by decide +kernel)
set_option maxRecDepth 20000 in
theorem gX6_weakOf_X4_intAt : GoodIn wsX6_weakOf (wsV RX6 33 RX4 yX4_intAt wsX4_intAt) := goodIn_app (goodIn_of _ (by decide +kernel)) ggX6_weakOf_X4_intAt
theorem dX6_weakOf_0 : decode cX6_weakOf 0 = .ok (.aload_n 0, 1) := by decide +kernel
theorem dX6_weakOf_1 : decode cX6_weakOf 1 = .ok (.getfield 20, 3) := by decide +kernel
theorem dX6_weakOf_4 : decode cX6_weakOf 4 = .ok (.iload_n 1, 1) := by decide +kernel
theorem dX6_weakOf_5 : decode cX6_weakOf 5 = .ok (.invokevirtual 33, 3) := by decide +kernel
theorem dX6_weakOf_8 : decode cX6_weakOf 8 = .ok (.ireturn, 1) := by decide +kernel
set_option maxRecDepth 20000 in
theorem ggX6_size_X6_has : GoodIn wsX6_size wsX6_has := goodIn_r _ [5, 6, 7, 8, 9, 10, 11, 12, 13, 14, 15, 16] (by decide +kernel) (by decide +kernel)
set_option maxRecDepth 20000 in
theorem gX6_size_X6_has : GoodIn wsX6_size (wsV RX6 42 RX6 yX6_has wsX6_has) := goodIn_app (goodIn_of _ (by decide +kernel)) ggX6_size_X6_has
theorem dX6_size_0 : decode cX6_size 0 = .ok (.iconst 0, 1) := by decide +kernel
theorem dX6_size_1 : decode cX6_size 1 = .ok (.istore_n 1, 1) := by decide +kernel
theorem dX6_size_2 : decode cX6_size 2 = .ok (.iconst 0, 1) := by decide +kernel
theorem dX6_size_3 : decode cX6_size 3 = .ok (.istore_n 2, 1) := by decide +kernel
theorem dX6_size_4 : decode cX6_size 4 = .ok (.iload_n 2, 1) := by decide +kernel
theorem dX6_size_5 : decode cX6_size 5 = .ok (.bipush 60, 2) := by decide +kernel
theorem dX6_size_7 : decode cX6_size 7 = .ok (.if_icmp .ge 20, 3) := by decide +kernel
theorem dX6_size_10 : decode cX6_size 10 = .ok (.aload_n 0, 1) := by decide +kernel
theorem dX6_size_11 : decode cX6_size 11 = .ok (.iload_n 2, 1) := by decide +kernel
theorem dX6_size_12 : decode cX6_size 12 = .ok (.invokevirtual 42, 3) := by decide +kernel
theorem dX6_size_15 : decode cX6_size 15 = .ok (.ifCond .eq 6, 3) := by decide +kernel
theorem dX6_size_18 : decode cX6_size 18 = .ok (.iinc 1 1, 3) := by decide +kernel
theorem dX6_size_21 : decode cX6_size 21 = .ok (.iinc 2 1, 3) := by decide +kernel
theorem dX6_size_24 : decode cX6_size 24 = .ok (.goto (-20), 3) := by decide +kernel
theorem dX6_size_27 : decode cX6_size 27 = .ok (.iload_n 1, 1) := by decide +kernel
theorem dX6_size_28 : decode cX6_size 28 = .ok (.ireturn, 1) := by decide +kernel
theorem dX7_nibble_0 : decode cX7_nibble 0 = .ok (.lload_n 0, 1) := by decide +kernel
theorem dX7_nibble_1 : decode cX7_nibble 1 = .ok (.iconst 4, 1) := by decide +kernel
theorem dX7_nibble_2 : decode cX7_nibble 2 = .ok (.iload_n 2, 1) := by decide +kernel
theorem dX7_nibble_3 : decode cX7_nibble 3 = .ok (.imul, 1) := by decide +kernel
theorem dX7_nibble_4 : decode cX7_nibble 4 = .ok (.lushr, 1) := by decide +kernel
theorem dX7_nibble_5 : decode cX7_nibble 5 = .ok (.l2i, 1) := by decide +kernel
theorem dX7_nibble_6 : decode cX7_nibble 6 = .ok (.bipush 15, 2) := by decide +kernel
theorem dX7_nibble_8 : decode cX7_nibble 8 = .ok (.iand, 1) := by decide +kernel
theorem dX7_nibble_9 : decode cX7_nibble 9 = .ok (.ireturn, 1) := by decide +kernel
theorem dX7_turned_0 : decode cX7_turned 0 = .ok (.lload_n 0, 1) := by decide +kernel
theorem dX7_turned_1 : decode cX7_turned 1 = .ok (.iload_n 3, 1) := by decide +kernel
theorem dX7_turned_2 : decode cX7_turned 2 = .ok (.i2l, 1) := by decide +kernel
theorem dX7_turned_3 : decode cX7_turned 3 = .ok (.iconst 4, 1) := by decide +kernel
theorem dX7_turned_4 : decode cX7_turned 4 = .ok (.iload_n 2, 1) := by decide +kernel
theorem dX7_turned_5 : decode cX7_turned 5 = .ok (.imul, 1) := by decide +kernel
theorem dX7_turned_6 : decode cX7_turned 6 = .ok (.lshl, 1) := by decide +kernel
theorem dX7_turned_7 : decode cX7_turned 7 = .ok (.lxor, 1) := by decide +kernel
theorem dX7_turned_8 : decode cX7_turned 8 = .ok (.lreturn, 1) := by decide +kernel
set_option maxRecDepth 20000 in
theorem ggX7_of_X7_sumsOf : GoodIn wsX7_of wsX7_sumsOf := goodIn_r _ [4, 5, 6, 3, 7, 8, 9, 10] (by decide +kernel) (by decide +kernel)
set_option maxRecDepth 20000 in
theorem gX7_of_X7_sumsOf : GoodIn wsX7_of (va_wsS RX7 9 yX7_sumsOf wsX7_sumsOf) := goodIn_app (goodIn_of _ (by decide +kernel)) ggX7_of_X7_sumsOf
set_option maxRecDepth 20000 in
theorem ggX7_of_X7_filled : GoodIn wsX7_of wsX7_filled := goodIn_r _ [13, 14, 15, 3, 16, 17, 8, 9, 10, 5, 6, 7, 1, 2, 4, 18, 19, 20, 21, 22, 23] (by decide +kernel) (by decide +kernel)
set_option maxRecDepth 20000 in
theorem gX7_of_X7_filled : GoodIn wsX7_of (va_wsS RX7 15 yX7_filled wsX7_filled) := goodIn_app (goodIn_of _ (by decide +kernel)) ggX7_of_X7_filled
theorem dX7_of_0 : decode cX7_of 0 = .ok (.iload_n 0, 1) := by decide +kernel
theorem dX7_of_1 : decode cX7_of 1 = .ok (.i2l, 1) := by decide +kernel
theorem dX7_of_2 : decode cX7_of 2 = .ok (.iload_n 0, 1) := by decide +kernel
theorem dX7_of_3 : decode cX7_of 3 = .ok (.i2l, 1) := by decide +kernel
theorem dX7_of_4 : decode cX7_of 4 = .ok (.invokestatic 9, 3) := by decide +kernel
theorem dX7_of_7 : decode cX7_of 7 = .ok (.sipush 240, 3) := by decide +kernel
theorem dX7_of_10 : decode cX7_of 10 = .ok (.invokestatic 15, 3) := by decide +kernel
theorem dX7_of_13 : decode cX7_of 13 = .ok (.lreturn, 1) := by decide +kernel
theorem dX7_valueOf_0 : decode cX7_valueOf 0 = .ok (.lload_n 0, 1) := by decide +kernel
theorem dX7_valueOf_1 : decode cX7_valueOf 1 = .ok (.ldc2_w 19, 3) := by decide +kernel
theorem dX7_valueOf_4 : decode cX7_valueOf 4 = .ok (.land, 1) := by decide +kernel
theorem dX7_valueOf_5 : decode cX7_valueOf 5 = .ok (.l2i, 1) := by decide +kernel
theorem dX7_valueOf_6 : decode cX7_valueOf 6 = .ok (.ireturn, 1) := by decide +kernel
set_option maxRecDepth 20000 in
theorem ggX7_differences_X7_nibble : GoodIn wsX7_differences wsX7_nibble := goodIn_r _ [4] (by decide +kernel) (by decide +kernel)
set_option maxRecDepth 20000 in
theorem gX7_differences_X7_nibble : GoodIn wsX7_differences (va_wsS RX7 21 yX7_nibble wsX7_nibble) := goodIn_app (goodIn_of _ (by decide +kernel)) ggX7_differences_X7_nibble
theorem dX7_differences_0 : decode cX7_differences 0 = .ok (.iconst 0, 1) := by decide +kernel
theorem dX7_differences_1 : decode cX7_differences 1 = .ok (.istore 4, 2) := by decide +kernel
theorem dX7_differences_3 : decode cX7_differences 3 = .ok (.iconst 0, 1) := by decide +kernel
theorem dX7_differences_4 : decode cX7_differences 4 = .ok (.istore 5, 2) := by decide +kernel
theorem dX7_differences_6 : decode cX7_differences 6 = .ok (.iload 5, 2) := by decide +kernel
theorem dX7_differences_8 : decode cX7_differences 8 = .ok (.bipush 8, 2) := by decide +kernel
theorem dX7_differences_10 : decode cX7_differences 10 = .ok (.if_icmp .ge 27, 3) := by decide +kernel
theorem dX7_differences_13 : decode cX7_differences 13 = .ok (.lload_n 0, 1) := by decide +kernel
theorem dX7_differences_14 : decode cX7_differences 14 = .ok (.iload 5, 2) := by decide +kernel
theorem dX7_differences_16 : decode cX7_differences 16 = .ok (.invokestatic 21, 3) := by decide +kernel
theorem dX7_differences_19 : decode cX7_differences 19 = .ok (.lload_n 2, 1) := by decide +kernel
theorem dX7_differences_20 : decode cX7_differences 20 = .ok (.iload 5, 2) := by decide +kernel
theorem dX7_differences_22 : decode cX7_differences 22 = .ok (.invokestatic 21, 3) := by decide +kernel
theorem dX7_differences_25 : decode cX7_differences 25 = .ok (.if_icmp .eq 6, 3) := by decide +kernel
theorem dX7_differences_28 : decode cX7_differences 28 = .ok (.iinc 4 1, 3) := by decide +kernel
theorem dX7_differences_31 : decode cX7_differences 31 = .ok (.iinc 5 1, 3) := by decide +kernel
theorem dX7_differences_34 : decode cX7_differences 34 = .ok (.goto (-28), 3) := by decide +kernel
theorem dX7_differences_37 : decode cX7_differences 37 = .ok (.iload 4, 2) := by decide +kernel
theorem dX7_differences_39 : decode cX7_differences 39 = .ok (.ireturn, 1) := by decide +kernel
set_option maxRecDepth 20000 in
theorem ggX7_repaired_X7_sumsOf : GoodIn wsX7_repaired wsX7_sumsOf := goodIn_r _ [5, 6, 7, 4, 8, 9, 10, 11] (by decide +kernel) (by decide +kernel)
set_option maxRecDepth 20000 in
theorem gX7_repaired_X7_sumsOf : GoodIn wsX7_repaired (va_wsS RX7 9 yX7_sumsOf wsX7_sumsOf) := goodIn_app (goodIn_of _ (by decide +kernel)) ggX7_repaired_X7_sumsOf
set_option maxRecDepth 20000 in
theorem ggX7_repaired_J6_bitCount_0f7a4 : GoodIn wsX7_repaired wsJ6_bitCount_0f7a4 := goodIn_r _ [15, 16, 17, 18] (by decide +kernel) (by decide +kernel)
set_option maxRecDepth 20000 in
theorem gX7_repaired_J6_bitCount_0f7a4 : GoodIn wsX7_repaired (va_wsS RX7 25 yJ6_bitCount_0f7a4 wsJ6_bitCount_0f7a4) := goodIn_app (goodIn_of _ (by decide +kernel)) ggX7_repaired_J6_bitCount_0f7a4
set_option maxRecDepth 20000 in
theorem ggX7_repaired_X7_sumsWithout : GoodIn wsX7_repaired wsX7_sumsWithout := goodIn_r _ [21, 22, 9, 10, 4, 11, 6, 7, 8] (by decide +kernel) (by decide +kernel)
set_option maxRecDepth 20000 in
theorem gX7_repaired_X7_sumsWithout : GoodIn wsX7_repaired (va_wsS RX7 31 yX7_sumsWithout wsX7_sumsWithout) := goodIn_app (goodIn_of _ (by decide +kernel)) ggX7_repaired_X7_sumsWithout
set_option maxRecDepth 20000 in
theorem ggX7_repaired_X7_filled : GoodIn wsX7_repaired wsX7_filled := goodIn_r _ [25, 19, 20, 4, 21, 22, 9, 10, 11, 6, 7, 8, 2, 3, 5, 26, 27, 28, 29, 30, 31] (by decide +kernel) (by decide +kernel)
set_option maxRecDepth 20000 in
theorem gX7_repaired_X7_filled : GoodIn wsX7_repaired (va_wsS RX7 15 yX7_filled wsX7_filled) := goodIn_app (goodIn_of _ (by decide +kernel)) ggX7_repaired_X7_filled
theorem dX7_repaired_0 : decode cX7_repaired 0 = .ok (.lload_n 0, 1) := by decide +kernel
theorem dX7_repaired_1 : decode cX7_repaired 1 = .ok (.invokestatic 9, 3) := by decide +kernel
theorem dX7_repaired_4 : decode cX7_repaired 4 = .ok (.istore_n 3, 1) := by decide +kernel
theorem dX7_repaired_5 : decode cX7_repaired 5 = .ok (.iload_n 2, 1) := by decide +kernel
theorem dX7_repaired_6 : decode cX7_repaired 6 = .ok (.invokestatic 25, 3) := by decide +kernel
theorem dX7_repaired_9 : decode cX7_repaired 9 = .ok (.istore 4, 2) := by decide +kernel
theorem dX7_repaired_11 : decode cX7_repaired 11 = .ok (.iconst 0, 1) := by decide +kernel
theorem dX7_repaired_12 : decode cX7_repaired 12 = .ok (.istore 5, 2) := by decide +kernel
theorem dX7_repaired_14 : decode cX7_repaired 14 = .ok (.iload 5, 2) := by decide +kernel
theorem dX7_repaired_16 : decode cX7_repaired 16 = .ok (.sipush 256, 3) := by decide +kernel
theorem dX7_repaired_19 : decode cX7_repaired 19 = .ok (.if_icmp .ge 63, 3) := by decide +kernel
theorem dX7_repaired_22 : decode cX7_repaired 22 = .ok (.iconst 2, 1) := by decide +kernel
theorem dX7_repaired_23 : decode cX7_repaired 23 = .ok (.iload 5, 2) := by decide +kernel
theorem dX7_repaired_25 : decode cX7_repaired 25 = .ok (.invokestatic 25, 3) := by decide +kernel
theorem dX7_repaired_28 : decode cX7_repaired 28 = .ok (.imul, 1) := by decide +kernel
theorem dX7_repaired_29 : decode cX7_repaired 29 = .ok (.iload 4, 2) := by decide +kernel
theorem dX7_repaired_31 : decode cX7_repaired 31 = .ok (.iadd, 1) := by decide +kernel
theorem dX7_repaired_32 : decode cX7_repaired 32 = .ok (.iconst 4, 1) := by decide +kernel
theorem dX7_repaired_33 : decode cX7_repaired 33 = .ok (.if_icmp .gt 7, 3) := by decide +kernel
theorem dX7_repaired_36 : decode cX7_repaired 36 = .ok (.iconst 1, 1) := by decide +kernel
theorem dX7_repaired_37 : decode cX7_repaired 37 = .ok (.goto 4, 3) := by decide +kernel
theorem dX7_repaired_40 : decode cX7_repaired 40 = .ok (.iconst 0, 1) := by decide +kernel
theorem dX7_repaired_41 : decode cX7_repaired 41 = .ok (.istore 6, 2) := by decide +kernel
theorem dX7_repaired_43 : decode cX7_repaired 43 = .ok (.iload 6, 2) := by decide +kernel
theorem dX7_repaired_45 : decode cX7_repaired 45 = .ok (.ifCond .eq 31, 3) := by decide +kernel
theorem dX7_repaired_48 : decode cX7_repaired 48 = .ok (.iload 5, 2) := by decide +kernel
theorem dX7_repaired_50 : decode cX7_repaired 50 = .ok (.iload_n 2, 1) := by decide +kernel
theorem dX7_repaired_51 : decode cX7_repaired 51 = .ok (.iand, 1) := by decide +kernel
theorem dX7_repaired_52 : decode cX7_repaired 52 = .ok (.ifCond .ne 24, 3) := by decide +kernel
theorem dX7_repaired_55 : decode cX7_repaired 55 = .ok (.iload_n 3, 1) := by decide +kernel
theorem dX7_repaired_56 : decode cX7_repaired 56 = .ok (.iload 5, 2) := by decide +kernel
theorem dX7_repaired_58 : decode cX7_repaired 58 = .ok (.iload_n 2, 1) := by decide +kernel
theorem dX7_repaired_59 : decode cX7_repaired 59 = .ok (.ior, 1) := by decide +kernel
theorem dX7_repaired_60 : decode cX7_repaired 60 = .ok (.invokestatic 31, 3) := by decide +kernel
theorem dX7_repaired_63 : decode cX7_repaired 63 = .ok (.ifCond .ne 13, 3) := by decide +kernel
theorem dX7_repaired_66 : decode cX7_repaired 66 = .ok (.lload_n 0, 1) := by decide +kernel
theorem dX7_repaired_67 : decode cX7_repaired 67 = .ok (.iload_n 3, 1) := by decide +kernel
theorem dX7_repaired_68 : decode cX7_repaired 68 = .ok (.iload 5, 2) := by decide +kernel
theorem dX7_repaired_70 : decode cX7_repaired 70 = .ok (.iload_n 2, 1) := by decide +kernel
theorem dX7_repaired_71 : decode cX7_repaired 71 = .ok (.ior, 1) := by decide +kernel
theorem dX7_repaired_72 : decode cX7_repaired 72 = .ok (.invokestatic 15, 3) := by decide +kernel
theorem dX7_repaired_75 : decode cX7_repaired 75 = .ok (.lreturn, 1) := by decide +kernel
theorem dX7_repaired_76 : decode cX7_repaired 76 = .ok (.iinc 5 1, 3) := by decide +kernel
theorem dX7_repaired_79 : decode cX7_repaired 79 = .ok (.goto (-65), 3) := by decide +kernel
theorem dX7_repaired_82 : decode cX7_repaired 82 = .ok (.ldc2_w 35, 3) := by decide +kernel
theorem dX7_repaired_85 : decode cX7_repaired 85 = .ok (.lreturn, 1) := by decide +kernel
set_option maxRecDepth 20000 in
theorem ggX7_sumsOf_X7_times : GoodIn wsX7_sumsOf wsX7_times := goodIn_r _ [4] (by decide +kernel) (by decide +kernel)
set_option maxRecDepth 20000 in
theorem gX7_sumsOf_X7_times : GoodIn wsX7_sumsOf (va_wsS RX7 37 yX7_times wsX7_times) := goodIn_app (goodIn_of _ (by decide +kernel)) ggX7_sumsOf_X7_times
set_option maxRecDepth 20000 in
theorem ggX7_sumsOf_X7_nibble : GoodIn wsX7_sumsOf wsX7_nibble := goodIn_r _ [7] (by decide +kernel) (by decide +kernel)
set_option maxRecDepth 20000 in
theorem gX7_sumsOf_X7_nibble : GoodIn wsX7_sumsOf (va_wsS RX7 21 yX7_nibble wsX7_nibble) := goodIn_app (goodIn_of _ (by decide +kernel)) ggX7_sumsOf_X7_nibble
theorem dX7_sumsOf_0 : decode cX7_sumsOf 0 = .ok (.iconst 0, 1) := by decide +kernel
theorem dX7_sumsOf_1 : decode cX7_sumsOf 1 = .ok (.istore_n 2, 1) := by decide +kernel
theorem dX7_sumsOf_2 : decode cX7_sumsOf 2 = .ok (.iconst 0, 1) := by decide +kernel
theorem dX7_sumsOf_3 : decode cX7_sumsOf 3 = .ok (.istore_n 3, 1) := by decide +kernel
theorem dX7_sumsOf_4 : decode cX7_sumsOf 4 = .ok (.iload_n 3, 1) := by decide +kernel
theorem dX7_sumsOf_5 : decode cX7_sumsOf 5 = .ok (.iconst 4, 1) := by decide +kernel
theorem dX7_sumsOf_6 : decode cX7_sumsOf 6 = .ok (.if_icmp .ge 53, 3) := by decide +kernel
theorem dX7_sumsOf_9 : decode cX7_sumsOf 9 = .ok (.iconst 0, 1) := by decide +kernel
theorem dX7_sumsOf_10 : decode cX7_sumsOf 10 = .ok (.istore 4, 2) := by decide +kernel
theorem dX7_sumsOf_12 : decode cX7_sumsOf 12 = .ok (.bipush 7, 2) := by decide +kernel
theorem dX7_sumsOf_14 : decode cX7_sumsOf 14 = .ok (.istore 5, 2) := by decide +kernel
theorem dX7_sumsOf_16 : decode cX7_sumsOf 16 = .ok (.iload 5, 2) := by decide +kernel
theorem dX7_sumsOf_18 : decode cX7_sumsOf 18 = .ok (.ifCond .lt 26, 3) := by decide +kernel
theorem dX7_sumsOf_21 : decode cX7_sumsOf 21 = .ok (.iload 4, 2) := by decide +kernel
theorem dX7_sumsOf_23 : decode cX7_sumsOf 23 = .ok (.iconst 1, 1) := by decide +kernel
theorem dX7_sumsOf_24 : decode cX7_sumsOf 24 = .ok (.iload_n 3, 1) := by decide +kernel
theorem dX7_sumsOf_25 : decode cX7_sumsOf 25 = .ok (.ishl, 1) := by decide +kernel
theorem dX7_sumsOf_26 : decode cX7_sumsOf 26 = .ok (.invokestatic 37, 3) := by decide +kernel
theorem dX7_sumsOf_29 : decode cX7_sumsOf 29 = .ok (.lload_n 0, 1) := by decide +kernel
theorem dX7_sumsOf_30 : decode cX7_sumsOf 30 = .ok (.iload 5, 2) := by decide +kernel
theorem dX7_sumsOf_32 : decode cX7_sumsOf 32 = .ok (.invokestatic 21, 3) := by decide +kernel
theorem dX7_sumsOf_35 : decode cX7_sumsOf 35 = .ok (.ixor, 1) := by decide +kernel
theorem dX7_sumsOf_36 : decode cX7_sumsOf 36 = .ok (.istore 4, 2) := by decide +kernel
theorem dX7_sumsOf_38 : decode cX7_sumsOf 38 = .ok (.iinc 5 (-1), 3) := by decide +kernel
theorem dX7_sumsOf_41 : decode cX7_sumsOf 41 = .ok (.goto (-25), 3) := by decide +kernel
theorem dX7_sumsOf_44 : decode cX7_sumsOf 44 = .ok (.iload_n 2, 1) := by decide +kernel
theorem dX7_sumsOf_45 : decode cX7_sumsOf 45 = .ok (.iload 4, 2) := by decide +kernel
theorem dX7_sumsOf_47 : decode cX7_sumsOf 47 = .ok (.iconst 4, 1) := by decide +kernel
theorem dX7_sumsOf_48 : decode cX7_sumsOf 48 = .ok (.iload_n 3, 1) := by decide +kernel
theorem dX7_sumsOf_49 : decode cX7_sumsOf 49 = .ok (.imul, 1) := by decide +kernel
theorem dX7_sumsOf_50 : decode cX7_sumsOf 50 = .ok (.ishl, 1) := by decide +kernel
theorem dX7_sumsOf_51 : decode cX7_sumsOf 51 = .ok (.ior, 1) := by decide +kernel
theorem dX7_sumsOf_52 : decode cX7_sumsOf 52 = .ok (.istore_n 2, 1) := by decide +kernel
theorem dX7_sumsOf_53 : decode cX7_sumsOf 53 = .ok (.iinc 3 1, 3) := by decide +kernel
theorem dX7_sumsOf_56 : decode cX7_sumsOf 56 = .ok (.goto (-52), 3) := by decide +kernel
theorem dX7_sumsOf_59 : decode cX7_sumsOf 59 = .ok (.iload_n 2, 1) := by decide +kernel
theorem dX7_sumsOf_60 : decode cX7_sumsOf 60 = .ok (.ireturn, 1) := by decide +kernel
set_option maxRecDepth 20000 in
theorem ggX7_filled_X7_sumsWithout : GoodIn wsX7_filled wsX7_sumsWithout := goodIn_r _ [4, 5, 6, 7, 3, 8, 9, 10, 11] (by decide +kernel) (by decide +kernel)
set_option maxRecDepth 20000 in
theorem gX7_filled_X7_sumsWithout : GoodIn wsX7_filled (va_wsS RX7 31 yX7_sumsWithout wsX7_sumsWithout) := goodIn_app (goodIn_of _ (by decide +kernel)) ggX7_filled_X7_sumsWithout
set_option maxRecDepth 20000 in
theorem ggX7_filled_X7_sumsOf : GoodIn wsX7_filled wsX7_sumsOf := goodIn_r _ [14, 9, 10, 3, 11, 6, 7, 8] (by decide +kernel) (by decide +kernel)
set_option maxRecDepth 20000 in
theorem gX7_filled_X7_sumsOf : GoodIn wsX7_filled (va_wsS RX7 9 yX7_sumsOf wsX7_sumsOf) := goodIn_app (goodIn_of _ (by decide +kernel)) ggX7_filled_X7_sumsOf
set_option maxRecDepth 20000 in
theorem ggX7_filled_X7_quotient : GoodIn wsX7_filled wsX7_quotient := goodIn_r _ [17, 9, 10, 3, 11] (by decide +kernel) (by decide +kernel)
set_option maxRecDepth 20000 in
theorem gX7_filled_X7_quotient : GoodIn wsX7_filled (va_wsS RX7 40 yX7_quotient wsX7_quotient) := goodIn_app (goodIn_of _ (by decide +kernel)) ggX7_filled_X7_quotient
set_option maxRecDepth 20000 in
theorem ggX7_filled_X7_turned : GoodIn wsX7_filled wsX7_turned := goodIn_r _ [20] (by decide +kernel) (by decide +kernel)
set_option maxRecDepth 20000 in
theorem gX7_filled_X7_turned : GoodIn wsX7_filled (va_wsS RX7 43 yX7_turned wsX7_turned) := goodIn_app (goodIn_of _ (by decide +kernel)) ggX7_filled_X7_turned
theorem dX7_filled_0 : decode cX7_filled 0 = .ok (.lload_n 0, 1) := by decide +kernel
theorem dX7_filled_1 : decode cX7_filled 1 = .ok (.lstore 4, 2) := by decide +kernel
theorem dX7_filled_3 : decode cX7_filled 3 = .ok (.iconst 0, 1) := by decide +kernel
theorem dX7_filled_4 : decode cX7_filled 4 = .ok (.istore 6, 2) := by decide +kernel
theorem dX7_filled_6 : decode cX7_filled 6 = .ok (.iload 6, 2) := by decide +kernel
theorem dX7_filled_8 : decode cX7_filled 8 = .ok (.bipush 8, 2) := by decide +kernel
theorem dX7_filled_10 : decode cX7_filled 10 = .ok (.if_icmp .ge 75, 3) := by decide +kernel
theorem dX7_filled_13 : decode cX7_filled 13 = .ok (.iload_n 3, 1) := by decide +kernel
theorem dX7_filled_14 : decode cX7_filled 14 = .ok (.iload 6, 2) := by decide +kernel
theorem dX7_filled_16 : decode cX7_filled 16 = .ok (.ishr, 1) := by decide +kernel
theorem dX7_filled_17 : decode cX7_filled 17 = .ok (.iconst 1, 1) := by decide +kernel
theorem dX7_filled_18 : decode cX7_filled 18 = .ok (.iand, 1) := by decide +kernel
theorem dX7_filled_19 : decode cX7_filled 19 = .ok (.iconst 1, 1) := by decide +kernel
theorem dX7_filled_20 : decode cX7_filled 20 = .ok (.if_icmp .ne 59, 3) := by decide +kernel
theorem dX7_filled_23 : decode cX7_filled 23 = .ok (.iload_n 3, 1) := by decide +kernel
theorem dX7_filled_24 : decode cX7_filled 24 = .ok (.iconst 1, 1) := by decide +kernel
theorem dX7_filled_25 : decode cX7_filled 25 = .ok (.iload 6, 2) := by decide +kernel
theorem dX7_filled_27 : decode cX7_filled 27 = .ok (.ishl, 1) := by decide +kernel
theorem dX7_filled_28 : decode cX7_filled 28 = .ok (.iconst (-1), 1) := by decide +kernel
theorem dX7_filled_29 : decode cX7_filled 29 = .ok (.ixor, 1) := by decide +kernel
theorem dX7_filled_30 : decode cX7_filled 30 = .ok (.iand, 1) := by decide +kernel
theorem dX7_filled_31 : decode cX7_filled 31 = .ok (.istore 7, 2) := by decide +kernel
theorem dX7_filled_33 : decode cX7_filled 33 = .ok (.iload_n 2, 1) := by decide +kernel
theorem dX7_filled_34 : decode cX7_filled 34 = .ok (.iload 7, 2) := by decide +kernel
theorem dX7_filled_36 : decode cX7_filled 36 = .ok (.invokestatic 31, 3) := by decide +kernel
theorem dX7_filled_39 : decode cX7_filled 39 = .ok (.bipush 15, 2) := by decide +kernel
theorem dX7_filled_41 : decode cX7_filled 41 = .ok (.iand, 1) := by decide +kernel
theorem dX7_filled_42 : decode cX7_filled 42 = .ok (.istore 8, 2) := by decide +kernel
theorem dX7_filled_44 : decode cX7_filled 44 = .ok (.lconst 1, 1) := by decide +kernel
theorem dX7_filled_45 : decode cX7_filled 45 = .ok (.iconst 4, 1) := by decide +kernel
theorem dX7_filled_46 : decode cX7_filled 46 = .ok (.iload 6, 2) := by decide +kernel
theorem dX7_filled_48 : decode cX7_filled 48 = .ok (.imul, 1) := by decide +kernel
theorem dX7_filled_49 : decode cX7_filled 49 = .ok (.lshl, 1) := by decide +kernel
theorem dX7_filled_50 : decode cX7_filled 50 = .ok (.invokestatic 9, 3) := by decide +kernel
theorem dX7_filled_53 : decode cX7_filled 53 = .ok (.iload 7, 2) := by decide +kernel
theorem dX7_filled_55 : decode cX7_filled 55 = .ok (.invokestatic 31, 3) := by decide +kernel
theorem dX7_filled_58 : decode cX7_filled 58 = .ok (.bipush 15, 2) := by decide +kernel
theorem dX7_filled_60 : decode cX7_filled 60 = .ok (.iand, 1) := by decide +kernel
theorem dX7_filled_61 : decode cX7_filled 61 = .ok (.istore 9, 2) := by decide +kernel
theorem dX7_filled_63 : decode cX7_filled 63 = .ok (.lload 4, 2) := by decide +kernel
theorem dX7_filled_65 : decode cX7_filled 65 = .ok (.iload 6, 2) := by decide +kernel
theorem dX7_filled_67 : decode cX7_filled 67 = .ok (.iload 8, 2) := by decide +kernel
theorem dX7_filled_69 : decode cX7_filled 69 = .ok (.iload 9, 2) := by decide +kernel
theorem dX7_filled_71 : decode cX7_filled 71 = .ok (.invokestatic 40, 3) := by decide +kernel
theorem dX7_filled_74 : decode cX7_filled 74 = .ok (.invokestatic 43, 3) := by decide +kernel
theorem dX7_filled_77 : decode cX7_filled 77 = .ok (.lstore 4, 2) := by decide +kernel
theorem dX7_filled_79 : decode cX7_filled 79 = .ok (.iinc 6 1, 3) := by decide +kernel
theorem dX7_filled_82 : decode cX7_filled 82 = .ok (.goto (-76), 3) := by decide +kernel
theorem dX7_filled_85 : decode cX7_filled 85 = .ok (.lload 4, 2) := by decide +kernel
theorem dX7_filled_87 : decode cX7_filled 87 = .ok (.lreturn, 1) := by decide +kernel
set_option maxRecDepth 20000 in
theorem ggX7_sumsWithout_X7_nibble : GoodIn wsX7_sumsWithout wsX7_nibble := goodIn_r _ [5] (by decide +kernel) (by decide +kernel)
set_option maxRecDepth 20000 in
theorem gX7_sumsWithout_X7_nibble : GoodIn wsX7_sumsWithout (va_wsS RX7 21 yX7_nibble wsX7_nibble) := goodIn_app (goodIn_of _ (by decide +kernel)) ggX7_sumsWithout_X7_nibble
set_option maxRecDepth 20000 in
theorem ggX7_sumsWithout_X7_times : GoodIn wsX7_sumsWithout wsX7_times := goodIn_r _ [8] (by decide +kernel) (by decide +kernel)
set_option maxRecDepth 20000 in
theorem gX7_sumsWithout_X7_times : GoodIn wsX7_sumsWithout (va_wsS RX7 37 yX7_times wsX7_times) := goodIn_app (goodIn_of _ (by decide +kernel)) ggX7_sumsWithout_X7_times
theorem dX7_sumsWithout_0 : decode cX7_sumsWithout 0 = .ok (.iload_n 0, 1) := by decide +kernel
theorem dX7_sumsWithout_1 : decode cX7_sumsWithout 1 = .ok (.istore_n 2, 1) := by decide +kernel
theorem dX7_sumsWithout_2 : decode cX7_sumsWithout 2 = .ok (.iconst 4, 1) := by decide +kernel
theorem dX7_sumsWithout_3 : decode cX7_sumsWithout 3 = .ok (.istore_n 3, 1) := by decide +kernel
theorem dX7_sumsWithout_4 : decode cX7_sumsWithout 4 = .ok (.iconst 0, 1) := by decide +kernel
theorem dX7_sumsWithout_5 : decode cX7_sumsWithout 5 = .ok (.istore 4, 2) := by decide +kernel
theorem dX7_sumsWithout_7 : decode cX7_sumsWithout 7 = .ok (.iload 4, 2) := by decide +kernel
theorem dX7_sumsWithout_9 : decode cX7_sumsWithout 9 = .ok (.bipush 8, 2) := by decide +kernel
theorem dX7_sumsWithout_11 : decode cX7_sumsWithout 11 = .ok (.if_icmp .ge 85, 3) := by decide +kernel
theorem dX7_sumsWithout_14 : decode cX7_sumsWithout 14 = .ok (.iload_n 1, 1) := by decide +kernel
theorem dX7_sumsWithout_15 : decode cX7_sumsWithout 15 = .ok (.iload 4, 2) := by decide +kernel
theorem dX7_sumsWithout_17 : decode cX7_sumsWithout 17 = .ok (.ishr, 1) := by decide +kernel
theorem dX7_sumsWithout_18 : decode cX7_sumsWithout 18 = .ok (.iconst 1, 1) := by decide +kernel
theorem dX7_sumsWithout_19 : decode cX7_sumsWithout 19 = .ok (.iand, 1) := by decide +kernel
theorem dX7_sumsWithout_20 : decode cX7_sumsWithout 20 = .ok (.iconst 1, 1) := by decide +kernel
theorem dX7_sumsWithout_21 : decode cX7_sumsWithout 21 = .ok (.if_icmp .ne 69, 3) := by decide +kernel
theorem dX7_sumsWithout_24 : decode cX7_sumsWithout 24 = .ok (.iinc 3 (-1), 3) := by decide +kernel
theorem dX7_sumsWithout_27 : decode cX7_sumsWithout 27 = .ok (.ldc2_w 46, 3) := by decide +kernel
theorem dX7_sumsWithout_30 : decode cX7_sumsWithout 30 = .ok (.iload 4, 2) := by decide +kernel
theorem dX7_sumsWithout_32 : decode cX7_sumsWithout 32 = .ok (.invokestatic 21, 3) := by decide +kernel
theorem dX7_sumsWithout_35 : decode cX7_sumsWithout 35 = .ok (.istore 5, 2) := by decide +kernel
theorem dX7_sumsWithout_37 : decode cX7_sumsWithout 37 = .ok (.iconst 0, 1) := by decide +kernel
theorem dX7_sumsWithout_38 : decode cX7_sumsWithout 38 = .ok (.istore 6, 2) := by decide +kernel
theorem dX7_sumsWithout_40 : decode cX7_sumsWithout 40 = .ok (.iconst 0, 1) := by decide +kernel
theorem dX7_sumsWithout_41 : decode cX7_sumsWithout 41 = .ok (.istore 7, 2) := by decide +kernel
theorem dX7_sumsWithout_43 : decode cX7_sumsWithout 43 = .ok (.iload 7, 2) := by decide +kernel
theorem dX7_sumsWithout_45 : decode cX7_sumsWithout 45 = .ok (.iload_n 3, 1) := by decide +kernel
theorem dX7_sumsWithout_46 : decode cX7_sumsWithout 46 = .ok (.if_icmp .ge 41, 3) := by decide +kernel
theorem dX7_sumsWithout_49 : decode cX7_sumsWithout 49 = .ok (.iload 6, 2) := by decide +kernel
theorem dX7_sumsWithout_51 : decode cX7_sumsWithout 51 = .ok (.iload_n 2, 1) := by decide +kernel
theorem dX7_sumsWithout_52 : decode cX7_sumsWithout 52 = .ok (.i2l, 1) := by decide +kernel
theorem dX7_sumsWithout_53 : decode cX7_sumsWithout 53 = .ok (.iload 7, 2) := by decide +kernel
theorem dX7_sumsWithout_55 : decode cX7_sumsWithout 55 = .ok (.iconst 1, 1) := by decide +kernel
theorem dX7_sumsWithout_56 : decode cX7_sumsWithout 56 = .ok (.iadd, 1) := by decide +kernel
theorem dX7_sumsWithout_57 : decode cX7_sumsWithout 57 = .ok (.invokestatic 21, 3) := by decide +kernel
theorem dX7_sumsWithout_60 : decode cX7_sumsWithout 60 = .ok (.iload_n 2, 1) := by decide +kernel
theorem dX7_sumsWithout_61 : decode cX7_sumsWithout 61 = .ok (.i2l, 1) := by decide +kernel
theorem dX7_sumsWithout_62 : decode cX7_sumsWithout 62 = .ok (.iload 7, 2) := by decide +kernel
theorem dX7_sumsWithout_64 : decode cX7_sumsWithout 64 = .ok (.invokestatic 21, 3) := by decide +kernel
theorem dX7_sumsWithout_67 : decode cX7_sumsWithout 67 = .ok (.iload 5, 2) := by decide +kernel
theorem dX7_sumsWithout_69 : decode cX7_sumsWithout 69 = .ok (.invokestatic 37, 3) := by decide +kernel
theorem dX7_sumsWithout_72 : decode cX7_sumsWithout 72 = .ok (.ixor, 1) := by decide +kernel
theorem dX7_sumsWithout_73 : decode cX7_sumsWithout 73 = .ok (.iconst 4, 1) := by decide +kernel
theorem dX7_sumsWithout_74 : decode cX7_sumsWithout 74 = .ok (.iload 7, 2) := by decide +kernel
theorem dX7_sumsWithout_76 : decode cX7_sumsWithout 76 = .ok (.imul, 1) := by decide +kernel
theorem dX7_sumsWithout_77 : decode cX7_sumsWithout 77 = .ok (.ishl, 1) := by decide +kernel
theorem dX7_sumsWithout_78 : decode cX7_sumsWithout 78 = .ok (.ior, 1) := by decide +kernel
theorem dX7_sumsWithout_79 : decode cX7_sumsWithout 79 = .ok (.istore 6, 2) := by decide +kernel
theorem dX7_sumsWithout_81 : decode cX7_sumsWithout 81 = .ok (.iinc 7 1, 3) := by decide +kernel
theorem dX7_sumsWithout_84 : decode cX7_sumsWithout 84 = .ok (.goto (-41), 3) := by decide +kernel
theorem dX7_sumsWithout_87 : decode cX7_sumsWithout 87 = .ok (.iload 6, 2) := by decide +kernel
theorem dX7_sumsWithout_89 : decode cX7_sumsWithout 89 = .ok (.istore_n 2, 1) := by decide +kernel
theorem dX7_sumsWithout_90 : decode cX7_sumsWithout 90 = .ok (.iinc 4 1, 3) := by decide +kernel
theorem dX7_sumsWithout_93 : decode cX7_sumsWithout 93 = .ok (.goto (-86), 3) := by decide +kernel
theorem dX7_sumsWithout_96 : decode cX7_sumsWithout 96 = .ok (.iload_n 2, 1) := by decide +kernel
theorem dX7_sumsWithout_97 : decode cX7_sumsWithout 97 = .ok (.ireturn, 1) := by decide +kernel
theorem dX7_times_0 : decode cX7_times 0 = .ok (.iconst 0, 1) := by decide +kernel
theorem dX7_times_1 : decode cX7_times 1 = .ok (.istore_n 2, 1) := by decide +kernel
theorem dX7_times_2 : decode cX7_times 2 = .ok (.iconst 0, 1) := by decide +kernel
theorem dX7_times_3 : decode cX7_times 3 = .ok (.istore_n 3, 1) := by decide +kernel
theorem dX7_times_4 : decode cX7_times 4 = .ok (.iload_n 3, 1) := by decide +kernel
theorem dX7_times_5 : decode cX7_times 5 = .ok (.iconst 4, 1) := by decide +kernel
theorem dX7_times_6 : decode cX7_times 6 = .ok (.if_icmp .ge 24, 3) := by decide +kernel
theorem dX7_times_9 : decode cX7_times 9 = .ok (.iload_n 1, 1) := by decide +kernel
theorem dX7_times_10 : decode cX7_times 10 = .ok (.iload_n 3, 1) := by decide +kernel
theorem dX7_times_11 : decode cX7_times 11 = .ok (.ishr, 1) := by decide +kernel
theorem dX7_times_12 : decode cX7_times 12 = .ok (.iconst 1, 1) := by decide +kernel
theorem dX7_times_13 : decode cX7_times 13 = .ok (.iand, 1) := by decide +kernel
theorem dX7_times_14 : decode cX7_times 14 = .ok (.iconst 1, 1) := by decide +kernel
theorem dX7_times_15 : decode cX7_times 15 = .ok (.if_icmp .ne 9, 3) := by decide +kernel
theorem dX7_times_18 : decode cX7_times 18 = .ok (.iload_n 2, 1) := by decide +kernel
theorem dX7_times_19 : decode cX7_times 19 = .ok (.iload_n 0, 1) := by decide +kernel
theorem dX7_times_20 : decode cX7_times 20 = .ok (.iload_n 3, 1) := by decide +kernel
theorem dX7_times_21 : decode cX7_times 21 = .ok (.ishl, 1) := by decide +kernel
theorem dX7_times_22 : decode cX7_times 22 = .ok (.ixor, 1) := by decide +kernel
theorem dX7_times_23 : decode cX7_times 23 = .ok (.istore_n 2, 1) := by decide +kernel
theorem dX7_times_24 : decode cX7_times 24 = .ok (.iinc 3 1, 3) := by decide +kernel
theorem dX7_times_27 : decode cX7_times 27 = .ok (.goto (-23), 3) := by decide +kernel
theorem dX7_times_30 : decode cX7_times 30 = .ok (.bipush 6, 2) := by decide +kernel
theorem dX7_times_32 : decode cX7_times 32 = .ok (.istore_n 3, 1) := by decide +kernel
theorem dX7_times_33 : decode cX7_times 33 = .ok (.iload_n 3, 1) := by decide +kernel
theorem dX7_times_34 : decode cX7_times 34 = .ok (.iconst 4, 1) := by decide +kernel
theorem dX7_times_35 : decode cX7_times 35 = .ok (.if_icmp .lt 27, 3) := by decide +kernel
theorem dX7_times_38 : decode cX7_times 38 = .ok (.iload_n 2, 1) := by decide +kernel
theorem dX7_times_39 : decode cX7_times 39 = .ok (.iload_n 3, 1) := by decide +kernel
theorem dX7_times_40 : decode cX7_times 40 = .ok (.ishr, 1) := by decide +kernel
theorem dX7_times_41 : decode cX7_times 41 = .ok (.iconst 1, 1) := by decide +kernel
theorem dX7_times_42 : decode cX7_times 42 = .ok (.iand, 1) := by decide +kernel
theorem dX7_times_43 : decode cX7_times 43 = .ok (.iconst 1, 1) := by decide +kernel
theorem dX7_times_44 : decode cX7_times 44 = .ok (.if_icmp .ne 12, 3) := by decide +kernel
theorem dX7_times_47 : decode cX7_times 47 = .ok (.iload_n 2, 1) := by decide +kernel
theorem dX7_times_48 : decode cX7_times 48 = .ok (.bipush 19, 2) := by decide +kernel
theorem dX7_times_50 : decode cX7_times 50 = .ok (.iload_n 3, 1) := by decide +kernel
theorem dX7_times_51 : decode cX7_times 51 = .ok (.iconst 4, 1) := by decide +kernel
theorem dX7_times_52 : decode cX7_times 52 = .ok (.isub, 1) := by decide +kernel
theorem dX7_times_53 : decode cX7_times 53 = .ok (.ishl, 1) := by decide +kernel
theorem dX7_times_54 : decode cX7_times 54 = .ok (.ixor, 1) := by decide +kernel
theorem dX7_times_55 : decode cX7_times 55 = .ok (.istore_n 2, 1) := by decide +kernel
theorem dX7_times_56 : decode cX7_times 56 = .ok (.iinc 3 (-1), 3) := by decide +kernel
theorem dX7_times_59 : decode cX7_times 59 = .ok (.goto (-26), 3) := by decide +kernel
theorem dX7_times_62 : decode cX7_times 62 = .ok (.iload_n 2, 1) := by decide +kernel
theorem dX7_times_63 : decode cX7_times 63 = .ok (.ireturn, 1) := by decide +kernel
set_option maxRecDepth 20000 in
theorem ggX7_quotient_X7_times : GoodIn wsX7_quotient wsX7_times := goodIn_r _ [4] (by decide +kernel) (by decide +kernel)
set_option maxRecDepth 20000 in
theorem gX7_quotient_X7_times : GoodIn wsX7_quotient (va_wsS RX7 37 yX7_times wsX7_times) := goodIn_app (goodIn_of _ (by decide +kernel)) ggX7_quotient_X7_times
theorem dX7_quotient_0 : decode cX7_quotient 0 = .ok (.iconst 0, 1) := by decide +kernel
theorem dX7_quotient_1 : decode cX7_quotient 1 = .ok (.istore_n 2, 1) := by decide +kernel
theorem dX7_quotient_2 : decode cX7_quotient 2 = .ok (.iload_n 2, 1) := by decide +kernel
theorem dX7_quotient_3 : decode cX7_quotient 3 = .ok (.bipush 16, 2) := by decide +kernel
theorem dX7_quotient_5 : decode cX7_quotient 5 = .ok (.if_icmp .ge 20, 3) := by decide +kernel
theorem dX7_quotient_8 : decode cX7_quotient 8 = .ok (.iload_n 2, 1) := by decide +kernel
theorem dX7_quotient_9 : decode cX7_quotient 9 = .ok (.iload_n 1, 1) := by decide +kernel
theorem dX7_quotient_10 : decode cX7_quotient 10 = .ok (.invokestatic 37, 3) := by decide +kernel
theorem dX7_quotient_13 : decode cX7_quotient 13 = .ok (.iload_n 0, 1) := by decide +kernel
theorem dX7_quotient_14 : decode cX7_quotient 14 = .ok (.if_icmp .ne 5, 3) := by decide +kernel
theorem dX7_quotient_17 : decode cX7_quotient 17 = .ok (.iload_n 2, 1) := by decide +kernel
theorem dX7_quotient_18 : decode cX7_quotient 18 = .ok (.ireturn, 1) := by decide +kernel
theorem dX7_quotient_19 : decode cX7_quotient 19 = .ok (.iinc 2 1, 3) := by decide +kernel
theorem dX7_quotient_22 : decode cX7_quotient 22 = .ok (.goto (-20), 3) := by decide +kernel
theorem dX7_quotient_25 : decode cX7_quotient 25 = .ok (.iconst 0, 1) := by decide +kernel
theorem dX7_quotient_26 : decode cX7_quotient 26 = .ok (.ireturn, 1) := by decide +kernel
set_option maxRecDepth 20000 in
theorem ggX8_init_X2_init : GoodIn wsX8_init wsX2_init := goodIn_r _ [25, 26, 2, 3, 27, 28, 29, 30, 31, 32, 33, 34, 35, 36, 37, 38, 39, 40, 41, 136, 99, 100, 101, 102, 103, 104] (by decide +kernel) (by decide +kernel)
set_option maxRecDepth 20000 in
theorem gX8_init_X2_init_n11 : GoodIn wsX8_init (wsX2_init) := ggX8_init_X2_init
set_option maxRecDepth 20000 in
theorem ggX8_init_X0_init : GoodIn wsX8_init wsX0_init := goodIn_r _ [43, 44, 2, 3, 45, 28, 29, 46, 47, 48, 49, 37, 38, 39, 40, 41, 136, 113, 114, 115] (by decide +kernel) (by decide +kernel)
set_option maxRecDepth 20000 in
theorem gX8_init_X0_init_n18 : GoodIn wsX8_init (wsX0_init) := ggX8_init_X0_init
set_option maxRecDepth 20000 in
theorem ggX8_init_X3_init : GoodIn wsX8_init wsX3_init := goodIn_r _ [52, 53, 2, 3, 54, 55, 56, 57, 58, 59, 28, 29, 60, 61, 62, 63, 64, 65, 66, 67, 68, 69, 70, 71, 72, 73, 74, 75, 76, 77, 78, 79, 80, 37, 38, 39, 40, 41, 81, 82, 83, 84, 85, 86, 137, 138, 116, 117, 118, 119, 120, 121, 122, 123, 124, 125, 126, 127, 128, 136] (by decide +kernel) (by decide +kernel)
set_option maxRecDepth 20000 in
theorem gX8_init_X3_init : GoodIn wsX8_init (wsX3_init) := ggX8_init_X3_init
set_option maxRecDepth 20000 in
theorem ggX8_init_X5_init : GoodIn wsX8_init wsX5_init := goodIn_r _ [88, 89, 2, 3, 90, 28, 29, 91, 92, 93, 94, 95, 96, 97, 98, 37, 38, 39, 40, 41, 136, 129, 130, 131, 132, 133, 134, 135] (by decide +kernel) (by decide +kernel)
set_option maxRecDepth 20000 in
theorem gX8_init_X5_init_n32 : GoodIn wsX8_init (wsX5_init) := ggX8_init_X5_init
theorem dX8_init_0 : decode cX8_init 0 = .ok (.aload_n 0, 1) := by decide +kernel
theorem dX8_init_1 : decode cX8_init 1 = .ok (.invokespecial 3, 3) := by decide +kernel
theorem dX8_init_4 : decode cX8_init 4 = .ok (.aload_n 0, 1) := by decide +kernel
theorem dX8_init_5 : decode cX8_init 5 = .ok (.new 9, 3) := by decide +kernel
theorem dX8_init_8 : decode cX8_init 8 = .ok (.dup, 1) := by decide +kernel
theorem dX8_init_9 : decode cX8_init 9 = .ok (.invokespecial 11, 3) := by decide +kernel
theorem dX8_init_12 : decode cX8_init 12 = .ok (.putfield 12, 3) := by decide +kernel
theorem dX8_init_15 : decode cX8_init 15 = .ok (.aload_n 0, 1) := by decide +kernel
theorem dX8_init_16 : decode cX8_init 16 = .ok (.new 16, 3) := by decide +kernel
theorem dX8_init_19 : decode cX8_init 19 = .ok (.dup, 1) := by decide +kernel
theorem dX8_init_20 : decode cX8_init 20 = .ok (.invokespecial 18, 3) := by decide +kernel
theorem dX8_init_23 : decode cX8_init 23 = .ok (.putfield 19, 3) := by decide +kernel
theorem dX8_init_26 : decode cX8_init 26 = .ok (.aload_n 0, 1) := by decide +kernel
theorem dX8_init_27 : decode cX8_init 27 = .ok (.new 23, 3) := by decide +kernel
theorem dX8_init_30 : decode cX8_init 30 = .ok (.dup, 1) := by decide +kernel
theorem dX8_init_31 : decode cX8_init 31 = .ok (.invokespecial 25, 3) := by decide +kernel
theorem dX8_init_34 : decode cX8_init 34 = .ok (.putfield 26, 3) := by decide +kernel
theorem dX8_init_37 : decode cX8_init 37 = .ok (.aload_n 0, 1) := by decide +kernel
theorem dX8_init_38 : decode cX8_init 38 = .ok (.new 30, 3) := by decide +kernel
theorem dX8_init_41 : decode cX8_init 41 = .ok (.dup, 1) := by decide +kernel
theorem dX8_init_42 : decode cX8_init 42 = .ok (.invokespecial 32, 3) := by decide +kernel
theorem dX8_init_45 : decode cX8_init 45 = .ok (.putfield 33, 3) := by decide +kernel
theorem dX8_init_48 : decode cX8_init 48 = .ok (.aload_n 0, 1) := by decide +kernel
theorem dX8_init_49 : decode cX8_init 49 = .ok (.iconst 0, 1) := by decide +kernel
theorem dX8_init_50 : decode cX8_init 50 = .ok (.putfield 37, 3) := by decide +kernel
theorem dX8_init_53 : decode cX8_init 53 = .ok (.aload_n 0, 1) := by decide +kernel
theorem dX8_init_54 : decode cX8_init 54 = .ok (.bipush 20, 2) := by decide +kernel
theorem dX8_init_56 : decode cX8_init 56 = .ok (.putfield 41, 3) := by decide +kernel
theorem dX8_init_59 : decode cX8_init 59 = .ok (.aload_n 0, 1) := by decide +kernel
theorem dX8_init_60 : decode cX8_init 60 = .ok (.iconst 0, 1) := by decide +kernel
theorem dX8_init_61 : decode cX8_init 61 = .ok (.putfield 45, 3) := by decide +kernel
theorem dX8_init_64 : decode cX8_init 64 = .ok (.aload_n 0, 1) := by decide +kernel
theorem dX8_init_65 : decode cX8_init 65 = .ok (.iconst 0, 1) := by decide +kernel
theorem dX8_init_66 : decode cX8_init 66 = .ok (.putfield 48, 3) := by decide +kernel
theorem dX8_init_69 : decode cX8_init 69 = .ok (.return_, 1) := by decide +kernel
set_option maxRecDepth 20000 in
theorem ggX8_word_X8_checkRange : GoodIn wsX8_word wsX8_checkRange := goodIn_ca (goodIn_r _ [5, 6, 7] (by decide +kernel) (by decide +kernel)) (goodIn_sub (fun _ h => List.mem_cons_of_mem _ (List.mem_append_right _ h)) (by decide +kernel))
set_option maxRecDepth 20000 in
theorem gX8_word_X8_checkRange : GoodIn wsX8_word (va_wsS RX8 53 yX8_checkRange wsX8_checkRange) := goodIn_app (goodIn_of _ (by decide +kernel)) ggX8_word_X8_checkRange
set_option maxRecDepth 20000 in
theorem ggX8_word_X7_of : GoodIn wsX8_word wsX7_of := goodIn_r _ [11, 12, 13, 10, 14, 15, 16, 17, 18, 19, 20, 21, 22, 23, 24, 25, 26, 27, 28, 29, 30, 31, 32, 33] (by decide +kernel) (by decide +kernel)
set_option maxRecDepth 20000 in
theorem gX8_word_X7_of : GoodIn wsX8_word (va_wsS RX8 57 yX7_of wsX7_of) := goodIn_app (goodIn_of _ (by decide +kernel)) ggX8_word_X7_of
theorem dX8_word_0 : decode cX8_word 0 = .ok (.iload_n 1, 1) := by decide +kernel
theorem dX8_word_1 : decode cX8_word 1 = .ok (.i2l, 1) := by decide +kernel
theorem dX8_word_2 : decode cX8_word 2 = .ok (.lconst 0, 1) := by decide +kernel
theorem dX8_word_3 : decode cX8_word 3 = .ok (.ldc2_w 51, 3) := by decide +kernel
theorem dX8_word_6 : decode cX8_word 6 = .ok (.invokestatic 53, 3) := by decide +kernel
theorem dX8_word_9 : decode cX8_word 9 = .ok (.iload_n 1, 1) := by decide +kernel
theorem dX8_word_10 : decode cX8_word 10 = .ok (.invokestatic 57, 3) := by decide +kernel
theorem dX8_word_13 : decode cX8_word 13 = .ok (.lreturn, 1) := by decide +kernel
set_option maxRecDepth 20000 in
theorem ggX8_mend_X8_repairedOrThrow : GoodIn wsX8_mend wsX8_repairedOrThrow := goodIn_ca (goodIn_ca (goodIn_r _ [4, 5, 6, 7, 8, 9, 10, 11, 3, 12, 13, 14, 15, 16, 17, 18, 19, 20, 21, 22, 23, 24, 25, 26, 27, 28, 29, 30, 31, 32, 33, 34, 35, 36, 37, 38, 39, 40, 41, 42, 43, 44, 45, 46, 47, 48] (by decide +kernel) (by decide +kernel)) (goodIn_sub (fun _ h => List.mem_cons_of_mem _ (List.mem_append_left _ (List.mem_append_right _ h))) (by decide +kernel))) (goodIn_sub (fun _ h => List.mem_cons_of_mem _ (List.mem_append_right _ h)) (by decide +kernel))
set_option maxRecDepth 20000 in
theorem gX8_mend_X8_repairedOrThrow : GoodIn wsX8_mend (va_wsS RX8 63 yX8_repairedOrThrow wsX8_repairedOrThrow) := goodIn_app (goodIn_of _ (by decide +kernel)) ggX8_mend_X8_repairedOrThrow
set_option maxRecDepth 20000 in
theorem ggX8_mend_X7_valueOf : GoodIn wsX8_mend wsX7_valueOf := goodIn_r _ [51, 52] (by decide +kernel) (by decide +kernel)
set_option maxRecDepth 20000 in
theorem gX8_mend_X7_valueOf : GoodIn wsX8_mend (va_wsS RX8 67 yX7_valueOf wsX7_valueOf) := goodIn_app (goodIn_of _ (by decide +kernel)) ggX8_mend_X7_valueOf
theorem dX8_mend_0 : decode cX8_mend 0 = .ok (.lload_n 1, 1) := by decide +kernel
theorem dX8_mend_1 : decode cX8_mend 1 = .ok (.iload_n 3, 1) := by decide +kernel
theorem dX8_mend_2 : decode cX8_mend 2 = .ok (.invokestatic 63, 3) := by decide +kernel
theorem dX8_mend_5 : decode cX8_mend 5 = .ok (.invokestatic 67, 3) := by decide +kernel
theorem dX8_mend_8 : decode cX8_mend 8 = .ok (.ireturn, 1) := by decide +kernel
set_option maxRecDepth 20000 in
theorem ggX8_mended_X8_repairedOrThrow : GoodIn wsX8_mended wsX8_repairedOrThrow := goodIn_ca (goodIn_ca (goodIn_r _ [4, 5, 6, 7, 8, 9, 10, 11, 3, 12, 13, 14, 15, 16, 17, 18, 19, 20, 21, 22, 23, 24, 25, 26, 27, 28, 29, 30, 31, 32, 33, 34, 35, 36, 37, 38, 39, 40, 41, 42, 43, 44, 45, 46, 47, 48] (by decide +kernel) (by decide +kernel)) (goodIn_sub (fun _ h => List.mem_cons_of_mem _ (List.mem_append_left _ (List.mem_append_right _ h))) (by decide +kernel))) (goodIn_sub (fun _ h => List.mem_cons_of_mem _ (List.mem_append_right _ h)) (by decide +kernel))
set_option maxRecDepth 20000 in
theorem gX8_mended_X8_repairedOrThrow : GoodIn wsX8_mended (va_wsS RX8 63 yX8_repairedOrThrow wsX8_repairedOrThrow) := goodIn_app (goodIn_of _ (by decide +kernel)) ggX8_mended_X8_repairedOrThrow
set_option maxRecDepth 20000 in
theorem ggX8_mended_X7_differences : GoodIn wsX8_mended wsX7_differences := goodIn_r _ [51, 26, 27, 17, 28] (by decide +kernel) (by decide +kernel)
set_option maxRecDepth 20000 in
theorem gX8_mended_X7_differences : GoodIn wsX8_mended (va_wsS RX8 71 yX7_differences wsX7_differences) := goodIn_app (goodIn_of _ (by decide +kernel)) ggX8_mended_X7_differences
theorem dX8_mended_0 : decode cX8_mended 0 = .ok (.lload_n 1, 1) := by decide +kernel
theorem dX8_mended_1 : decode cX8_mended 1 = .ok (.lload_n 1, 1) := by decide +kernel
theorem dX8_mended_2 : decode cX8_mended 2 = .ok (.iload_n 3, 1) := by decide +kernel
theorem dX8_mended_3 : decode cX8_mended 3 = .ok (.invokestatic 63, 3) := by decide +kernel
theorem dX8_mended_6 : decode cX8_mended 6 = .ok (.invokestatic 71, 3) := by decide +kernel
theorem dX8_mended_9 : decode cX8_mended 9 = .ok (.ireturn, 1) := by decide +kernel
set_option maxRecDepth 20000 in
theorem ggX8_encode_X8_checkRange : GoodIn wsX8_encode wsX8_checkRange := goodIn_ca (goodIn_r _ [5, 6, 7] (by decide +kernel) (by decide +kernel)) (goodIn_sub (fun _ h => List.mem_cons_of_mem _ (List.mem_append_right _ h)) (by decide +kernel))
set_option maxRecDepth 20000 in
theorem gX8_encode_X8_checkRange : GoodIn wsX8_encode (va_wsS RX8 53 yX8_checkRange wsX8_checkRange) := goodIn_app (goodIn_of _ (by decide +kernel)) ggX8_encode_X8_checkRange
set_option maxRecDepth 20000 in
theorem ggX8_encode_X1_ofByte : GoodIn wsX8_encode wsX1_ofByte := goodIn_r _ [11] (by decide +kernel) (by decide +kernel)
set_option maxRecDepth 20000 in
theorem gX8_encode_X1_ofByte : GoodIn wsX8_encode (va_wsS RX8 77 yX1_ofByte wsX1_ofByte) := goodIn_app (goodIn_of _ (by decide +kernel)) ggX8_encode_X1_ofByte
theorem dX8_encode_0 : decode cX8_encode 0 = .ok (.iload_n 1, 1) := by decide +kernel
theorem dX8_encode_1 : decode cX8_encode 1 = .ok (.i2l, 1) := by decide +kernel
theorem dX8_encode_2 : decode cX8_encode 2 = .ok (.lconst 0, 1) := by decide +kernel
theorem dX8_encode_3 : decode cX8_encode 3 = .ok (.ldc2_w 75, 3) := by decide +kernel
theorem dX8_encode_6 : decode cX8_encode 6 = .ok (.invokestatic 53, 3) := by decide +kernel
theorem dX8_encode_9 : decode cX8_encode 9 = .ok (.iload_n 2, 1) := by decide +kernel
theorem dX8_encode_10 : decode cX8_encode 10 = .ok (.i2l, 1) := by decide +kernel
theorem dX8_encode_11 : decode cX8_encode 11 = .ok (.lconst 0, 1) := by decide +kernel
theorem dX8_encode_12 : decode cX8_encode 12 = .ok (.lconst 1, 1) := by decide +kernel
theorem dX8_encode_13 : decode cX8_encode 13 = .ok (.invokestatic 53, 3) := by decide +kernel
theorem dX8_encode_16 : decode cX8_encode 16 = .ok (.iload_n 1, 1) := by decide +kernel
theorem dX8_encode_17 : decode cX8_encode 17 = .ok (.iload_n 2, 1) := by decide +kernel
theorem dX8_encode_18 : decode cX8_encode 18 = .ok (.invokestatic 77, 3) := by decide +kernel
theorem dX8_encode_21 : decode cX8_encode 21 = .ok (.ireturn, 1) := by decide +kernel
set_option maxRecDepth 20000 in
theorem ggX8_decode_X8_checkRange : GoodIn wsX8_decode wsX8_checkRange := goodIn_ca (goodIn_r _ [7, 8, 9] (by decide +kernel) (by decide +kernel)) (goodIn_sub (fun _ h => List.mem_cons_of_mem _ (List.mem_append_right _ h)) (by decide +kernel))
set_option maxRecDepth 20000 in
theorem gX8_decode_X8_checkRange : GoodIn wsX8_decode (va_wsS RX8 53 yX8_checkRange wsX8_checkRange) := goodIn_app (goodIn_of _ (by decide +kernel)) ggX8_decode_X8_checkRange
set_option maxRecDepth 20000 in
theorem ggX8_decode_X1_dataOf : GoodIn wsX8_decode wsX1_dataOf := goodIn_r _ [13] (by decide +kernel) (by decide +kernel)
set_option maxRecDepth 20000 in
theorem gX8_decode_X1_dataOf : GoodIn wsX8_decode (va_wsS RX8 83 yX1_dataOf wsX1_dataOf) := goodIn_app (goodIn_of _ (by decide +kernel)) ggX8_decode_X1_dataOf
set_option maxRecDepth 20000 in
theorem ggX8_decode_X1_ofByte : GoodIn wsX8_decode wsX1_ofByte := goodIn_r _ [16] (by decide +kernel) (by decide +kernel)
set_option maxRecDepth 20000 in
theorem gX8_decode_X1_ofByte : GoodIn wsX8_decode (va_wsS RX8 77 yX1_ofByte wsX1_ofByte) := goodIn_app (goodIn_of _ (by decide +kernel)) ggX8_decode_X1_ofByte
theorem dX8_decode_0 : decode cX8_decode 0 = .ok (.iload_n 1, 1) := by decide +kernel
theorem dX8_decode_1 : decode cX8_decode 1 = .ok (.i2l, 1) := by decide +kernel
theorem dX8_decode_2 : decode cX8_decode 2 = .ok (.lconst 0, 1) := by decide +kernel
theorem dX8_decode_3 : decode cX8_decode 3 = .ok (.ldc2_w 51, 3) := by decide +kernel
theorem dX8_decode_6 : decode cX8_decode 6 = .ok (.invokestatic 53, 3) := by decide +kernel
theorem dX8_decode_9 : decode cX8_decode 9 = .ok (.iload_n 2, 1) := by decide +kernel
theorem dX8_decode_10 : decode cX8_decode 10 = .ok (.i2l, 1) := by decide +kernel
theorem dX8_decode_11 : decode cX8_decode 11 = .ok (.lconst 0, 1) := by decide +kernel
theorem dX8_decode_12 : decode cX8_decode 12 = .ok (.lconst 1, 1) := by decide +kernel
theorem dX8_decode_13 : decode cX8_decode 13 = .ok (.invokestatic 53, 3) := by decide +kernel
theorem dX8_decode_16 : decode cX8_decode 16 = .ok (.iload_n 1, 1) := by decide +kernel
theorem dX8_decode_17 : decode cX8_decode 17 = .ok (.invokestatic 83, 3) := by decide +kernel
theorem dX8_decode_20 : decode cX8_decode 20 = .ok (.istore_n 3, 1) := by decide +kernel
theorem dX8_decode_21 : decode cX8_decode 21 = .ok (.iload_n 3, 1) := by decide +kernel
theorem dX8_decode_22 : decode cX8_decode 22 = .ok (.iload_n 2, 1) := by decide +kernel
theorem dX8_decode_23 : decode cX8_decode 23 = .ok (.invokestatic 77, 3) := by decide +kernel
theorem dX8_decode_26 : decode cX8_decode 26 = .ok (.iload_n 1, 1) := by decide +kernel
theorem dX8_decode_27 : decode cX8_decode 27 = .ok (.if_icmp .eq 11, 3) := by decide +kernel
theorem dX8_decode_30 : decode cX8_decode 30 = .ok (.new 87, 3) := by decide +kernel
theorem dX8_decode_33 : decode cX8_decode 33 = .ok (.dup, 1) := by decide +kernel
theorem dX8_decode_34 : decode cX8_decode 34 = .ok (.invokespecial 89, 3) := by decide +kernel
theorem dX8_decode_37 : decode cX8_decode 37 = .ok (.athrow, 1) := by decide +kernel
theorem dX8_decode_38 : decode cX8_decode 38 = .ok (.iload_n 3, 1) := by decide +kernel
theorem dX8_decode_39 : decode cX8_decode 39 = .ok (.ireturn, 1) := by decide +kernel
set_option maxRecDepth 20000 in
theorem ggX8_sample_X8_checkRange : GoodIn wsX8_sample wsX8_checkRange := goodIn_ca (goodIn_r _ [9, 10, 11] (by decide +kernel) (by decide +kernel)) (goodIn_sub (fun _ h => List.mem_cons_of_mem _ (List.mem_append_right _ h)) (by decide +kernel))
set_option maxRecDepth 20000 in
theorem gX8_sample_X8_checkRange : GoodIn wsX8_sample (va_wsS RX8 53 yX8_checkRange wsX8_checkRange) := goodIn_app (goodIn_of _ (by decide +kernel)) ggX8_sample_X8_checkRange
set_option maxRecDepth 20000 in
theorem ggX8_sample_X2_size : GoodIn wsX8_sample wsX2_size := goodIn_r _ [16, 17, 37, 38, 39, 40, 41, 42] (by decide +kernel) (by decide +kernel)
set_option maxRecDepth 20000 in
theorem gX8_sample_X2_size : GoodIn wsX8_sample (wsV RX8 94 RX2 yX2_size wsX2_size) := goodIn_app (goodIn_of _ (by decide +kernel)) ggX8_sample_X2_size
set_option maxRecDepth 20000 in
theorem ggX8_sample_X2_add : GoodIn wsX8_sample wsX2_add := goodIn_r _ [21, 22, 17, 23, 24, 25, 26, 27, 28, 37, 38, 39, 40, 41, 42, 43] (by decide +kernel) (by decide +kernel)
set_option maxRecDepth 20000 in
theorem gX8_sample_X2_add : GoodIn wsX8_sample (wsV RX8 101 RX2 yX2_add wsX2_add) := goodIn_app (goodIn_of _ (by decide +kernel)) ggX8_sample_X2_add
theorem dX8_sample_0 : decode cX8_sample 0 = .ok (.iload_n 1, 1) := by decide +kernel
theorem dX8_sample_1 : decode cX8_sample 1 = .ok (.i2l, 1) := by decide +kernel
theorem dX8_sample_2 : decode cX8_sample 2 = .ok (.ldc2_w 90, 3) := by decide +kernel
theorem dX8_sample_5 : decode cX8_sample 5 = .ok (.ldc2_w 92, 3) := by decide +kernel
theorem dX8_sample_8 : decode cX8_sample 8 = .ok (.invokestatic 53, 3) := by decide +kernel
theorem dX8_sample_11 : decode cX8_sample 11 = .ok (.aload_n 0, 1) := by decide +kernel
theorem dX8_sample_12 : decode cX8_sample 12 = .ok (.getfield 12, 3) := by decide +kernel
theorem dX8_sample_15 : decode cX8_sample 15 = .ok (.invokevirtual 94, 3) := by decide +kernel
theorem dX8_sample_18 : decode cX8_sample 18 = .ok (.bipush 12, 2) := by decide +kernel
theorem dX8_sample_20 : decode cX8_sample 20 = .ok (.if_icmp .lt 11, 3) := by decide +kernel
theorem dX8_sample_23 : decode cX8_sample 23 = .ok (.new 98, 3) := by decide +kernel
theorem dX8_sample_26 : decode cX8_sample 26 = .ok (.dup, 1) := by decide +kernel
theorem dX8_sample_27 : decode cX8_sample 27 = .ok (.invokespecial 100, 3) := by decide +kernel
theorem dX8_sample_30 : decode cX8_sample 30 = .ok (.athrow, 1) := by decide +kernel
theorem dX8_sample_31 : decode cX8_sample 31 = .ok (.aload_n 0, 1) := by decide +kernel
theorem dX8_sample_32 : decode cX8_sample 32 = .ok (.getfield 12, 3) := by decide +kernel
theorem dX8_sample_35 : decode cX8_sample 35 = .ok (.iload_n 1, 1) := by decide +kernel
theorem dX8_sample_36 : decode cX8_sample 36 = .ok (.invokevirtual 101, 3) := by decide +kernel
theorem dX8_sample_39 : decode cX8_sample 39 = .ok (.ireturn, 1) := by decide +kernel
set_option maxRecDepth 20000 in
theorem ggX8_guess_X2_bestCells : GoodIn wsX8_guess wsX2_bestCells := goodIn_r _ [6, 7, 8, 9, 10, 11, 12, 13, 14, 15, 16, 17, 18, 19, 20, 21, 22, 23, 24, 25, 26, 27, 28, 5, 29, 30, 31, 32, 33, 34, 35, 36, 37, 38, 39, 48, 49, 50, 51, 52, 53, 54] (by decide +kernel) (by decide +kernel)
set_option maxRecDepth 20000 in
theorem gX8_guess_X2_bestCells : GoodIn wsX8_guess (wsV RX8 104 RX2 yX2_bestCells wsX2_bestCells) := goodIn_app (goodIn_of _ (by decide +kernel)) ggX8_guess_X2_bestCells
theorem dX8_guess_0 : decode cX8_guess 0 = .ok (.aload_n 0, 1) := by decide +kernel
theorem dX8_guess_1 : decode cX8_guess 1 = .ok (.getfield 12, 3) := by decide +kernel
theorem dX8_guess_4 : decode cX8_guess 4 = .ok (.invokevirtual 104, 3) := by decide +kernel
theorem dX8_guess_7 : decode cX8_guess 7 = .ok (.ireturn, 1) := by decide +kernel
set_option maxRecDepth 20000 in
theorem ggX8_isSound_X3_keepsWhatWasSent : GoodIn wsX8_isSound wsX3_keepsWhatWasSent := goodIn_r _ [7, 8, 9, 10, 11, 12, 13, 14, 15, 16, 17, 18, 19, 20, 21, 22, 23, 24, 25, 6, 26, 27, 28, 29, 30, 31, 32, 33, 34, 35, 36, 37, 38, 39, 40, 41, 42, 43, 44, 45, 46, 47, 48, 49, 50, 51, 52, 53, 54, 55, 56, 57, 58, 59, 60, 61, 62, 63, 64, 65, 66, 67, 68, 69, 70, 71, 72, 73, 74, 75, 76, 77, 78, 79, 80, 81, 82, 83, 84, 85, 86, 87, 88, 89, 90, 91, 128, 129, 130, 131, 132, 133, 134, 135, 136, 137, 138, 139, 140, 141, 142, 143] (by decide +kernel) (by decide +kernel)
set_option maxRecDepth 20000 in
theorem gX8_isSound_X3_keepsWhatWasSent : GoodIn wsX8_isSound (wsV RX8 286 RX3 yX3_keepsWhatWasSent wsX3_keepsWhatWasSent) := goodIn_app (goodIn_of _ (by decide +kernel)) ggX8_isSound_X3_keepsWhatWasSent
set_option maxRecDepth 20000 in
theorem ggX8_isSound_X3_endsHold : GoodIn wsX8_isSound wsX3_endsHold := goodIn_r _ [95, 32, 33, 34, 35, 36, 37, 38, 39, 40, 13, 14, 15, 16, 17, 96, 97, 98, 6, 99, 100, 101, 51, 52, 53, 22, 128, 129, 130, 131, 132, 133, 134, 135, 136, 137, 138, 139, 140, 142, 143, 141] (by decide +kernel) (by decide +kernel)
set_option maxRecDepth 20000 in
theorem gX8_isSound_X3_endsHold : GoodIn wsX8_isSound (wsV RX8 289 RX3 yX3_endsHold wsX3_endsHold) := goodIn_app (goodIn_of _ (by decide +kernel)) ggX8_isSound_X3_endsHold
set_option maxRecDepth 20000 in
theorem ggX8_isSound_X0_holdsEachOnce : GoodIn wsX8_isSound wsX0_holdsEachOnce := goodIn_r _ [106, 107, 108, 109, 51, 52, 15, 53, 22, 13, 14, 16, 17, 110, 111, 112, 105, 113, 114, 144, 145, 146, 141] (by decide +kernel) (by decide +kernel)
set_option maxRecDepth 20000 in
theorem gX8_isSound_X0_holdsEachOnce : GoodIn wsX8_isSound (wsV RX8 292 RX0 yX0_holdsEachOnce wsX0_holdsEachOnce) := goodIn_app (goodIn_of _ (by decide +kernel)) ggX8_isSound_X0_holdsEachOnce
set_option maxRecDepth 20000 in
theorem ggX8_isSound_X6_size : GoodIn wsX8_isSound wsX6_size := goodIn_r _ [118, 119, 34, 35, 36, 37, 38, 39, 40, 13, 14, 15, 16, 17, 142, 143, 141] (by decide +kernel) (by decide +kernel)
set_option maxRecDepth 20000 in
theorem gX8_isSound_X6_size : GoodIn wsX8_isSound (wsV RX8 155 RX6 yX6_size wsX6_size) := goodIn_app (goodIn_of _ (by decide +kernel)) ggX8_isSound_X6_size
theorem dX8_isSound_0 : decode cX8_isSound 0 = .ok (.aload_n 0, 1) := by decide +kernel
theorem dX8_isSound_1 : decode cX8_isSound 1 = .ok (.getfield 26, 3) := by decide +kernel
theorem dX8_isSound_4 : decode cX8_isSound 4 = .ok (.invokevirtual 286, 3) := by decide +kernel
theorem dX8_isSound_7 : decode cX8_isSound 7 = .ok (.ifCond .eq 42, 3) := by decide +kernel
theorem dX8_isSound_10 : decode cX8_isSound 10 = .ok (.aload_n 0, 1) := by decide +kernel
theorem dX8_isSound_11 : decode cX8_isSound 11 = .ok (.getfield 26, 3) := by decide +kernel
theorem dX8_isSound_14 : decode cX8_isSound 14 = .ok (.invokevirtual 289, 3) := by decide +kernel
theorem dX8_isSound_17 : decode cX8_isSound 17 = .ok (.ifCond .eq 32, 3) := by decide +kernel
theorem dX8_isSound_20 : decode cX8_isSound 20 = .ok (.aload_n 0, 1) := by decide +kernel
theorem dX8_isSound_21 : decode cX8_isSound 21 = .ok (.getfield 19, 3) := by decide +kernel
theorem dX8_isSound_24 : decode cX8_isSound 24 = .ok (.invokevirtual 292, 3) := by decide +kernel
theorem dX8_isSound_27 : decode cX8_isSound 27 = .ok (.ifCond .eq 22, 3) := by decide +kernel
theorem dX8_isSound_30 : decode cX8_isSound 30 = .ok (.aload_n 0, 1) := by decide +kernel
theorem dX8_isSound_31 : decode cX8_isSound 31 = .ok (.getfield 26, 3) := by decide +kernel
theorem dX8_isSound_34 : decode cX8_isSound 34 = .ok (.getfield 151, 3) := by decide +kernel
theorem dX8_isSound_37 : decode cX8_isSound 37 = .ok (.invokevirtual 155, 3) := by decide +kernel
theorem dX8_isSound_40 : decode cX8_isSound 40 = .ok (.bipush 10, 2) := by decide +kernel
theorem dX8_isSound_42 : decode cX8_isSound 42 = .ok (.if_icmp .gt 7, 3) := by decide +kernel
theorem dX8_isSound_45 : decode cX8_isSound 45 = .ok (.iconst 1, 1) := by decide +kernel
theorem dX8_isSound_46 : decode cX8_isSound 46 = .ok (.goto 4, 3) := by decide +kernel
theorem dX8_isSound_49 : decode cX8_isSound 49 = .ok (.iconst 0, 1) := by decide +kernel
theorem dX8_isSound_50 : decode cX8_isSound 50 = .ok (.ireturn, 1) := by decide +kernel
theorem dX8_checkRange_0 : decode cX8_checkRange 0 = .ok (.lload_n 0, 1) := by decide +kernel
theorem dX8_checkRange_1 : decode cX8_checkRange 1 = .ok (.lload_n 2, 1) := by decide +kernel
theorem dX8_checkRange_2 : decode cX8_checkRange 2 = .ok (.lcmp, 1) := by decide +kernel
theorem dX8_checkRange_3 : decode cX8_checkRange 3 = .ok (.ifCond .lt 10, 3) := by decide +kernel
theorem dX8_checkRange_6 : decode cX8_checkRange 6 = .ok (.lload_n 0, 1) := by decide +kernel
theorem dX8_checkRange_7 : decode cX8_checkRange 7 = .ok (.lload 4, 2) := by decide +kernel
theorem dX8_checkRange_9 : decode cX8_checkRange 9 = .ok (.lcmp, 1) := by decide +kernel
theorem dX8_checkRange_10 : decode cX8_checkRange 10 = .ok (.ifCond .le 11, 3) := by decide +kernel
theorem dX8_checkRange_13 : decode cX8_checkRange 13 = .ok (.new 238, 3) := by decide +kernel
theorem dX8_checkRange_16 : decode cX8_checkRange 16 = .ok (.dup, 1) := by decide +kernel
theorem dX8_checkRange_17 : decode cX8_checkRange 17 = .ok (.invokespecial 240, 3) := by decide +kernel
theorem dX8_checkRange_20 : decode cX8_checkRange 20 = .ok (.athrow, 1) := by decide +kernel
theorem dX8_checkRange_21 : decode cX8_checkRange 21 = .ok (.return_, 1) := by decide +kernel
set_option maxRecDepth 20000 in
theorem ggX8_repairedOrThrow_X8_checkRange : GoodIn wsX8_repairedOrThrow wsX8_checkRange := goodIn_ca (goodIn_r _ [9, 10, 11] (by decide +kernel) (by decide +kernel)) (goodIn_sub (fun _ h => List.mem_cons_of_mem _ (List.mem_append_right _ h)) (by decide +kernel))
set_option maxRecDepth 20000 in
theorem gX8_repairedOrThrow_X8_checkRange : GoodIn wsX8_repairedOrThrow (va_wsS RX8 53 yX8_checkRange wsX8_checkRange) := goodIn_app (goodIn_of _ (by decide +kernel)) ggX8_repairedOrThrow_X8_checkRange
set_option maxRecDepth 20000 in
theorem ggX8_repairedOrThrow_X7_repaired : GoodIn wsX8_repairedOrThrow wsX7_repaired := goodIn_r _ [15, 16, 17, 18, 14, 19, 20, 21, 22, 23, 24, 25, 26, 27, 28, 29, 30, 31, 32, 33, 34, 35, 36, 37, 38, 39, 40, 41, 42, 43, 44, 45] (by decide +kernel) (by decide +kernel)
set_option maxRecDepth 20000 in
theorem gX8_repairedOrThrow_X7_repaired : GoodIn wsX8_repairedOrThrow (va_wsS RX8 300 yX7_repaired wsX7_repaired) := goodIn_app (goodIn_of _ (by decide +kernel)) ggX8_repairedOrThrow_X7_repaired
theorem dX8_repairedOrThrow_0 : decode cX8_repairedOrThrow 0 = .ok (.lload_n 0, 1) := by decide +kernel
theorem dX8_repairedOrThrow_1 : decode cX8_repairedOrThrow 1 = .ok (.lconst 0, 1) := by decide +kernel
theorem dX8_repairedOrThrow_2 : decode cX8_repairedOrThrow 2 = .ok (.ldc2_w 298, 3) := by decide +kernel
theorem dX8_repairedOrThrow_5 : decode cX8_repairedOrThrow 5 = .ok (.invokestatic 53, 3) := by decide +kernel
theorem dX8_repairedOrThrow_8 : decode cX8_repairedOrThrow 8 = .ok (.iload_n 2, 1) := by decide +kernel
theorem dX8_repairedOrThrow_9 : decode cX8_repairedOrThrow 9 = .ok (.i2l, 1) := by decide +kernel
theorem dX8_repairedOrThrow_10 : decode cX8_repairedOrThrow 10 = .ok (.lconst 0, 1) := by decide +kernel
theorem dX8_repairedOrThrow_11 : decode cX8_repairedOrThrow 11 = .ok (.ldc2_w 75, 3) := by decide +kernel
theorem dX8_repairedOrThrow_14 : decode cX8_repairedOrThrow 14 = .ok (.invokestatic 53, 3) := by decide +kernel
theorem dX8_repairedOrThrow_17 : decode cX8_repairedOrThrow 17 = .ok (.lload_n 0, 1) := by decide +kernel
theorem dX8_repairedOrThrow_18 : decode cX8_repairedOrThrow 18 = .ok (.iload_n 2, 1) := by decide +kernel
theorem dX8_repairedOrThrow_19 : decode cX8_repairedOrThrow 19 = .ok (.invokestatic 300, 3) := by decide +kernel
theorem dX8_repairedOrThrow_22 : decode cX8_repairedOrThrow 22 = .ok (.lstore_n 3, 1) := by decide +kernel
theorem dX8_repairedOrThrow_23 : decode cX8_repairedOrThrow 23 = .ok (.lload_n 3, 1) := by decide +kernel
theorem dX8_repairedOrThrow_24 : decode cX8_repairedOrThrow 24 = .ok (.ldc2_w 303, 3) := by decide +kernel
theorem dX8_repairedOrThrow_27 : decode cX8_repairedOrThrow 27 = .ok (.lcmp, 1) := by decide +kernel
theorem dX8_repairedOrThrow_28 : decode cX8_repairedOrThrow 28 = .ok (.ifCond .ne 11, 3) := by decide +kernel
theorem dX8_repairedOrThrow_31 : decode cX8_repairedOrThrow 31 = .ok (.new 87, 3) := by decide +kernel
theorem dX8_repairedOrThrow_34 : decode cX8_repairedOrThrow 34 = .ok (.dup, 1) := by decide +kernel
theorem dX8_repairedOrThrow_35 : decode cX8_repairedOrThrow 35 = .ok (.invokespecial 89, 3) := by decide +kernel
theorem dX8_repairedOrThrow_38 : decode cX8_repairedOrThrow 38 = .ok (.athrow, 1) := by decide +kernel
theorem dX8_repairedOrThrow_39 : decode cX8_repairedOrThrow 39 = .ok (.lload_n 3, 1) := by decide +kernel
theorem dX8_repairedOrThrow_40 : decode cX8_repairedOrThrow 40 = .ok (.lreturn, 1) := by decide +kernel
theorem dJ6_bitCount_0f7a4_0 : decode cJ6_bitCount_0f7a4 0 = .ok (.iload_n 0, 1) := by decide +kernel
theorem dJ6_bitCount_0f7a4_1 : decode cJ6_bitCount_0f7a4 1 = .ok (.iload_n 0, 1) := by decide +kernel
theorem dJ6_bitCount_0f7a4_2 : decode cJ6_bitCount_0f7a4 2 = .ok (.iconst 1, 1) := by decide +kernel
theorem dJ6_bitCount_0f7a4_3 : decode cJ6_bitCount_0f7a4 3 = .ok (.iushr, 1) := by decide +kernel
theorem dJ6_bitCount_0f7a4_4 : decode cJ6_bitCount_0f7a4 4 = .ok (.ldc_w 265, 3) := by decide +kernel
theorem dJ6_bitCount_0f7a4_7 : decode cJ6_bitCount_0f7a4 7 = .ok (.iand, 1) := by decide +kernel
theorem dJ6_bitCount_0f7a4_8 : decode cJ6_bitCount_0f7a4 8 = .ok (.isub, 1) := by decide +kernel
theorem dJ6_bitCount_0f7a4_9 : decode cJ6_bitCount_0f7a4 9 = .ok (.istore_n 0, 1) := by decide +kernel
theorem dJ6_bitCount_0f7a4_10 : decode cJ6_bitCount_0f7a4 10 = .ok (.iload_n 0, 1) := by decide +kernel
theorem dJ6_bitCount_0f7a4_11 : decode cJ6_bitCount_0f7a4 11 = .ok (.ldc_w 266, 3) := by decide +kernel
theorem dJ6_bitCount_0f7a4_14 : decode cJ6_bitCount_0f7a4 14 = .ok (.iand, 1) := by decide +kernel
theorem dJ6_bitCount_0f7a4_15 : decode cJ6_bitCount_0f7a4 15 = .ok (.iload_n 0, 1) := by decide +kernel
theorem dJ6_bitCount_0f7a4_16 : decode cJ6_bitCount_0f7a4 16 = .ok (.iconst 2, 1) := by decide +kernel
theorem dJ6_bitCount_0f7a4_17 : decode cJ6_bitCount_0f7a4 17 = .ok (.iushr, 1) := by decide +kernel
theorem dJ6_bitCount_0f7a4_18 : decode cJ6_bitCount_0f7a4 18 = .ok (.ldc_w 266, 3) := by decide +kernel
theorem dJ6_bitCount_0f7a4_21 : decode cJ6_bitCount_0f7a4 21 = .ok (.iand, 1) := by decide +kernel
theorem dJ6_bitCount_0f7a4_22 : decode cJ6_bitCount_0f7a4 22 = .ok (.iadd, 1) := by decide +kernel
theorem dJ6_bitCount_0f7a4_23 : decode cJ6_bitCount_0f7a4 23 = .ok (.istore_n 0, 1) := by decide +kernel
theorem dJ6_bitCount_0f7a4_24 : decode cJ6_bitCount_0f7a4 24 = .ok (.iload_n 0, 1) := by decide +kernel
theorem dJ6_bitCount_0f7a4_25 : decode cJ6_bitCount_0f7a4 25 = .ok (.iload_n 0, 1) := by decide +kernel
theorem dJ6_bitCount_0f7a4_26 : decode cJ6_bitCount_0f7a4 26 = .ok (.iconst 4, 1) := by decide +kernel
theorem dJ6_bitCount_0f7a4_27 : decode cJ6_bitCount_0f7a4 27 = .ok (.iushr, 1) := by decide +kernel
theorem dJ6_bitCount_0f7a4_28 : decode cJ6_bitCount_0f7a4 28 = .ok (.iadd, 1) := by decide +kernel
theorem dJ6_bitCount_0f7a4_29 : decode cJ6_bitCount_0f7a4 29 = .ok (.ldc_w 267, 3) := by decide +kernel
theorem dJ6_bitCount_0f7a4_32 : decode cJ6_bitCount_0f7a4 32 = .ok (.iand, 1) := by decide +kernel
theorem dJ6_bitCount_0f7a4_33 : decode cJ6_bitCount_0f7a4 33 = .ok (.istore_n 0, 1) := by decide +kernel
theorem dJ6_bitCount_0f7a4_34 : decode cJ6_bitCount_0f7a4 34 = .ok (.iload_n 0, 1) := by decide +kernel
theorem dJ6_bitCount_0f7a4_35 : decode cJ6_bitCount_0f7a4 35 = .ok (.iload_n 0, 1) := by decide +kernel
theorem dJ6_bitCount_0f7a4_36 : decode cJ6_bitCount_0f7a4 36 = .ok (.bipush 8, 2) := by decide +kernel
theorem dJ6_bitCount_0f7a4_38 : decode cJ6_bitCount_0f7a4 38 = .ok (.iushr, 1) := by decide +kernel
theorem dJ6_bitCount_0f7a4_39 : decode cJ6_bitCount_0f7a4 39 = .ok (.iadd, 1) := by decide +kernel
theorem dJ6_bitCount_0f7a4_40 : decode cJ6_bitCount_0f7a4 40 = .ok (.istore_n 0, 1) := by decide +kernel
theorem dJ6_bitCount_0f7a4_41 : decode cJ6_bitCount_0f7a4 41 = .ok (.iload_n 0, 1) := by decide +kernel
theorem dJ6_bitCount_0f7a4_42 : decode cJ6_bitCount_0f7a4 42 = .ok (.iload_n 0, 1) := by decide +kernel
theorem dJ6_bitCount_0f7a4_43 : decode cJ6_bitCount_0f7a4 43 = .ok (.bipush 16, 2) := by decide +kernel
theorem dJ6_bitCount_0f7a4_45 : decode cJ6_bitCount_0f7a4 45 = .ok (.iushr, 1) := by decide +kernel
theorem dJ6_bitCount_0f7a4_46 : decode cJ6_bitCount_0f7a4 46 = .ok (.iadd, 1) := by decide +kernel
theorem dJ6_bitCount_0f7a4_47 : decode cJ6_bitCount_0f7a4 47 = .ok (.istore_n 0, 1) := by decide +kernel
theorem dJ6_bitCount_0f7a4_48 : decode cJ6_bitCount_0f7a4 48 = .ok (.iload_n 0, 1) := by decide +kernel
theorem dJ6_bitCount_0f7a4_49 : decode cJ6_bitCount_0f7a4 49 = .ok (.bipush 63, 2) := by decide +kernel
theorem dJ6_bitCount_0f7a4_51 : decode cJ6_bitCount_0f7a4 51 = .ok (.iand, 1) := by decide +kernel
theorem dJ6_bitCount_0f7a4_52 : decode cJ6_bitCount_0f7a4 52 = .ok (.ireturn, 1) := by decide +kernel
theorem dL_cell_0 : decode cL_cell 0 = .ok (.ldc 7, 2) := by decide +kernel
theorem dL_cell_2 : decode cL_cell 2 = .ok (.iload_n 1, 1) := by decide +kernel
theorem dL_cell_3 : decode cL_cell 3 = .ok (.aload_n 0, 1) := by decide +kernel
theorem dL_cell_4 : decode cL_cell 4 = .ok (.arraylength, 1) := by decide +kernel
theorem dL_cell_5 : decode cL_cell 5 = .ok (.if_icmp .ge 9, 3) := by decide +kernel
theorem dL_cell_8 : decode cL_cell 8 = .ok (.aload_n 0, 1) := by decide +kernel
theorem dL_cell_9 : decode cL_cell 9 = .ok (.iload_n 1, 1) := by decide +kernel
theorem dL_cell_10 : decode cL_cell 10 = .ok (.iaload, 1) := by decide +kernel
theorem dL_cell_11 : decode cL_cell 11 = .ok (.goto 4, 3) := by decide +kernel
theorem dL_cell_14 : decode cL_cell 14 = .ok (.iconst 0, 1) := by decide +kernel
theorem dL_cell_15 : decode cL_cell 15 = .ok (.sipush 1009, 3) := by decide +kernel
theorem dL_cell_18 : decode cL_cell 18 = .ok (.iload_n 1, 1) := by decide +kernel
theorem dL_cell_19 : decode cL_cell 19 = .ok (.imul, 1) := by decide +kernel
theorem dL_cell_20 : decode cL_cell 20 = .ok (.iadd, 1) := by decide +kernel
theorem dL_cell_21 : decode cL_cell 21 = .ok (.imul, 1) := by decide +kernel
theorem dL_cell_22 : decode cL_cell 22 = .ok (.sipush 12345, 3) := by decide +kernel
theorem dL_cell_25 : decode cL_cell 25 = .ok (.iadd, 1) := by decide +kernel
theorem dL_cell_26 : decode cL_cell 26 = .ok (.istore_n 2, 1) := by decide +kernel
theorem dL_cell_27 : decode cL_cell 27 = .ok (.iload_n 2, 1) := by decide +kernel
theorem dL_cell_28 : decode cL_cell 28 = .ok (.iload_n 2, 1) := by decide +kernel
theorem dL_cell_29 : decode cL_cell 29 = .ok (.bipush 13, 2) := by decide +kernel
theorem dL_cell_31 : decode cL_cell 31 = .ok (.iushr, 1) := by decide +kernel
theorem dL_cell_32 : decode cL_cell 32 = .ok (.ixor, 1) := by decide +kernel
theorem dL_cell_33 : decode cL_cell 33 = .ok (.ldc 8, 2) := by decide +kernel
theorem dL_cell_35 : decode cL_cell 35 = .ok (.imul, 1) := by decide +kernel
theorem dL_cell_36 : decode cL_cell 36 = .ok (.istore_n 2, 1) := by decide +kernel
theorem dL_cell_37 : decode cL_cell 37 = .ok (.iload_n 2, 1) := by decide +kernel
theorem dL_cell_38 : decode cL_cell 38 = .ok (.iload_n 2, 1) := by decide +kernel
theorem dL_cell_39 : decode cL_cell 39 = .ok (.bipush 16, 2) := by decide +kernel
theorem dL_cell_41 : decode cL_cell 41 = .ok (.iushr, 1) := by decide +kernel
theorem dL_cell_42 : decode cL_cell 42 = .ok (.ixor, 1) := by decide +kernel
theorem dL_cell_43 : decode cL_cell 43 = .ok (.ireturn, 1) := by decide +kernel
set_option maxRecDepth 20000 in
theorem ggL_word_X8_word : GoodIn wsL_word wsX8_word := goodIn_ca (goodIn_r _ [7, 8, 9, 10, 6, 11, 12, 13, 14, 15, 16, 17, 18, 19, 20, 21, 22, 23, 24, 25, 26, 27, 28, 29, 30, 31, 32, 33, 34, 35, 36, 37, 38, 39] (by decide +kernel) (by decide +kernel)) (goodIn_sub (fun _ h => List.mem_cons_of_mem _ (List.mem_append_right _ h)) (by decide +kernel))
set_option maxRecDepth 20000 in
theorem gL_word_X8_word : GoodIn wsL_word (wsV RL 9 RX8 yX8_word wsX8_word) := goodIn_app (goodIn_of _ (by decide +kernel)) ggL_word_X8_word
theorem dL_word_0 : decode cL_word 0 = .ok (.aload_n 0, 1) := by decide +kernel
theorem dL_word_1 : decode cL_word 1 = .ok (.iload_n 1, 1) := by decide +kernel
theorem dL_word_2 : decode cL_word 2 = .ok (.invokevirtual 9, 3) := by decide +kernel
theorem dL_word_5 : decode cL_word 5 = .ok (.lreturn, 1) := by decide +kernel
theorem dL_word_6 : decode cL_word 6 = .ok (.astore_n 2, 1) := by decide +kernel
theorem dL_word_7 : decode cL_word 7 = .ok (.ldc2_w 17, 3) := by decide +kernel
theorem dL_word_10 : decode cL_word 10 = .ok (.lreturn, 1) := by decide +kernel
set_option maxRecDepth 20000 in
theorem ggL_mend_X8_mend : GoodIn wsL_mend wsX8_mend := goodIn_ca (goodIn_ca (goodIn_r _ [9, 10, 11, 8, 12, 13, 14, 15, 16, 17, 18, 19, 20, 21, 22, 23, 24, 25, 26, 27, 28, 29, 30, 31, 32, 33, 34, 35, 36, 37, 38, 39, 40, 41, 42, 43, 44, 45, 46, 47, 48, 49, 50, 51, 52, 53, 54, 55, 56, 57, 58, 59, 60] (by decide +kernel) (by decide +kernel)) (goodIn_sub (fun _ h => List.mem_cons_of_mem _ (List.mem_append_left _ (List.mem_append_right _ h))) (by decide +kernel))) (goodIn_sub (fun _ h => List.mem_cons_of_mem _ (List.mem_append_right _ h)) (by decide +kernel))
set_option maxRecDepth 20000 in
theorem gL_mend_X8_mend : GoodIn wsL_mend (wsV RL 19 RX8 yX8_mend wsX8_mend) := goodIn_app (goodIn_of _ (by decide +kernel)) ggL_mend_X8_mend
theorem dL_mend_0 : decode cL_mend 0 = .ok (.aload_n 0, 1) := by decide +kernel
theorem dL_mend_1 : decode cL_mend 1 = .ok (.lload_n 1, 1) := by decide +kernel
theorem dL_mend_2 : decode cL_mend 2 = .ok (.iload_n 3, 1) := by decide +kernel
theorem dL_mend_3 : decode cL_mend 3 = .ok (.invokevirtual 19, 3) := by decide +kernel
theorem dL_mend_6 : decode cL_mend 6 = .ok (.ireturn, 1) := by decide +kernel
theorem dL_mend_7 : decode cL_mend 7 = .ok (.astore 4, 2) := by decide +kernel
theorem dL_mend_9 : decode cL_mend 9 = .ok (.ldc 23, 2) := by decide +kernel
theorem dL_mend_11 : decode cL_mend 11 = .ok (.ireturn, 1) := by decide +kernel
theorem dL_mend_12 : decode cL_mend 12 = .ok (.astore 4, 2) := by decide +kernel
theorem dL_mend_14 : decode cL_mend 14 = .ok (.ldc 26, 2) := by decide +kernel
theorem dL_mend_16 : decode cL_mend 16 = .ok (.ireturn, 1) := by decide +kernel
set_option maxRecDepth 20000 in
theorem ggL_mended_X8_mended : GoodIn wsL_mended wsX8_mended := goodIn_ca (goodIn_ca (goodIn_r _ [9, 10, 11, 8, 12, 13, 14, 15, 16, 17, 18, 19, 20, 21, 22, 23, 24, 25, 26, 27, 28, 29, 30, 31, 32, 33, 34, 35, 36, 37, 38, 39, 40, 41, 42, 43, 44, 45, 46, 47, 48, 49, 50, 51, 52, 53, 54, 55, 56, 57, 58, 59] (by decide +kernel) (by decide +kernel)) (goodIn_sub (fun _ h => List.mem_cons_of_mem _ (List.mem_append_left _ (List.mem_append_right _ h))) (by decide +kernel))) (goodIn_sub (fun _ h => List.mem_cons_of_mem _ (List.mem_append_right _ h)) (by decide +kernel))
set_option maxRecDepth 20000 in
theorem gL_mended_X8_mended : GoodIn wsL_mended (wsV RL 27 RX8 yX8_mended wsX8_mended) := goodIn_app (goodIn_of _ (by decide +kernel)) ggL_mended_X8_mended
theorem dL_mended_0 : decode cL_mended 0 = .ok (.aload_n 0, 1) := by decide +kernel
theorem dL_mended_1 : decode cL_mended 1 = .ok (.lload_n 1, 1) := by decide +kernel
theorem dL_mended_2 : decode cL_mended 2 = .ok (.iload_n 3, 1) := by decide +kernel
theorem dL_mended_3 : decode cL_mended 3 = .ok (.invokevirtual 27, 3) := by decide +kernel
theorem dL_mended_6 : decode cL_mended 6 = .ok (.ireturn, 1) := by decide +kernel
theorem dL_mended_7 : decode cL_mended 7 = .ok (.astore 4, 2) := by decide +kernel
theorem dL_mended_9 : decode cL_mended 9 = .ok (.ldc 23, 2) := by decide +kernel
theorem dL_mended_11 : decode cL_mended 11 = .ok (.ireturn, 1) := by decide +kernel
theorem dL_mended_12 : decode cL_mended 12 = .ok (.astore 4, 2) := by decide +kernel
theorem dL_mended_14 : decode cL_mended 14 = .ok (.ldc 26, 2) := by decide +kernel
theorem dL_mended_16 : decode cL_mended 16 = .ok (.ireturn, 1) := by decide +kernel
set_option maxRecDepth 20000 in
theorem ggL_encode_X8_encode : GoodIn wsL_encode wsX8_encode := goodIn_ca (goodIn_r _ [7, 8, 9, 10, 6, 11, 12, 13, 14, 15, 16, 17] (by decide +kernel) (by decide +kernel)) (goodIn_sub (fun _ h => List.mem_cons_of_mem _ (List.mem_append_right _ h)) (by decide +kernel))
set_option maxRecDepth 20000 in
theorem gL_encode_X8_encode : GoodIn wsL_encode (wsV RL 30 RX8 yX8_encode wsX8_encode) := goodIn_app (goodIn_of _ (by decide +kernel)) ggL_encode_X8_encode
theorem dL_encode_0 : decode cL_encode 0 = .ok (.aload_n 0, 1) := by decide +kernel
theorem dL_encode_1 : decode cL_encode 1 = .ok (.iload_n 1, 1) := by decide +kernel
theorem dL_encode_2 : decode cL_encode 2 = .ok (.iload_n 2, 1) := by decide +kernel
theorem dL_encode_3 : decode cL_encode 3 = .ok (.invokevirtual 30, 3) := by decide +kernel
theorem dL_encode_6 : decode cL_encode 6 = .ok (.ireturn, 1) := by decide +kernel
theorem dL_encode_7 : decode cL_encode 7 = .ok (.astore_n 3, 1) := by decide +kernel
theorem dL_encode_8 : decode cL_encode 8 = .ok (.ldc 23, 2) := by decide +kernel
theorem dL_encode_10 : decode cL_encode 10 = .ok (.ireturn, 1) := by decide +kernel
set_option maxRecDepth 20000 in
theorem ggL_decode_X8_decode : GoodIn wsL_decode wsX8_decode := goodIn_ca (goodIn_ca (goodIn_r _ [9, 10, 11, 12, 13, 14, 8, 15, 16, 17, 18, 19, 20, 21, 22, 23, 24] (by decide +kernel) (by decide +kernel)) (goodIn_sub (fun _ h => List.mem_cons_of_mem _ (List.mem_append_left _ (List.mem_append_right _ h))) (by decide +kernel))) (goodIn_sub (fun _ h => List.mem_cons_of_mem _ (List.mem_append_right _ h)) (by decide +kernel))
set_option maxRecDepth 20000 in
theorem gL_decode_X8_decode : GoodIn wsL_decode (wsV RL 34 RX8 yX8_decode wsX8_decode) := goodIn_app (goodIn_of _ (by decide +kernel)) ggL_decode_X8_decode
theorem dL_decode_0 : decode cL_decode 0 = .ok (.aload_n 0, 1) := by decide +kernel
theorem dL_decode_1 : decode cL_decode 1 = .ok (.iload_n 1, 1) := by decide +kernel
theorem dL_decode_2 : decode cL_decode 2 = .ok (.iload_n 2, 1) := by decide +kernel
theorem dL_decode_3 : decode cL_decode 3 = .ok (.invokevirtual 34, 3) := by decide +kernel
theorem dL_decode_6 : decode cL_decode 6 = .ok (.ireturn, 1) := by decide +kernel
theorem dL_decode_7 : decode cL_decode 7 = .ok (.astore_n 3, 1) := by decide +kernel
theorem dL_decode_8 : decode cL_decode 8 = .ok (.ldc 23, 2) := by decide +kernel
theorem dL_decode_10 : decode cL_decode 10 = .ok (.ireturn, 1) := by decide +kernel
theorem dL_decode_11 : decode cL_decode 11 = .ok (.astore_n 3, 1) := by decide +kernel
theorem dL_decode_12 : decode cL_decode 12 = .ok (.ldc 26, 2) := by decide +kernel
theorem dL_decode_14 : decode cL_decode 14 = .ok (.ireturn, 1) := by decide +kernel
set_option maxRecDepth 20000 in
theorem ggL_sample_X8_sample : GoodIn wsL_sample wsX8_sample := goodIn_ca (goodIn_ca (goodIn_r _ [9, 10, 11, 12, 13, 14, 15, 16, 8, 17, 18, 19, 20, 21, 22, 23, 24, 25, 26, 27, 28, 29, 30, 31, 32, 33, 34, 35, 36, 37, 38, 39, 40, 41, 42, 43, 44, 45, 46, 47, 48, 49, 50, 51] (by decide +kernel) (by decide +kernel)) (goodIn_sub (fun _ h => List.mem_cons_of_mem _ (List.mem_append_left _ (List.mem_append_right _ h))) (by decide +kernel))) (goodIn_sub (fun _ h => List.mem_cons_of_mem _ (List.mem_append_right _ h)) (by decide +kernel))
set_option maxRecDepth 20000 in
theorem gL_sample_X8_sample : GoodIn wsL_sample (wsV RL 37 RX8 yX8_sample wsX8_sample) := goodIn_app (goodIn_of _ (by decide +kernel)) ggL_sample_X8_sample
theorem dL_sample_0 : decode cL_sample 0 = .ok (.aload_n 0, 1) := by decide +kernel
theorem dL_sample_1 : decode cL_sample 1 = .ok (.iload_n 1, 1) := by decide +kernel
theorem dL_sample_2 : decode cL_sample 2 = .ok (.invokevirtual 37, 3) := by decide +kernel
theorem dL_sample_5 : decode cL_sample 5 = .ok (.ireturn, 1) := by decide +kernel
theorem dL_sample_6 : decode cL_sample 6 = .ok (.astore_n 2, 1) := by decide +kernel
theorem dL_sample_7 : decode cL_sample 7 = .ok (.ldc 23, 2) := by decide +kernel
theorem dL_sample_9 : decode cL_sample 9 = .ok (.ireturn, 1) := by decide +kernel
theorem dL_sample_10 : decode cL_sample 10 = .ok (.astore_n 2, 1) := by decide +kernel
theorem dL_sample_11 : decode cL_sample 11 = .ok (.ldc 26, 2) := by decide +kernel
theorem dL_sample_13 : decode cL_sample 13 = .ok (.ireturn, 1) := by decide +kernel
set_option maxRecDepth 20000 in
theorem ggL_in_L_cell : GoodIn wsL_in wsL_cell := goodIn_r _ [5, 6, 7] (by decide +kernel) (by decide +kernel)
set_option maxRecDepth 20000 in
theorem gL_in_L_cell : GoodIn wsL_in (va_wsS RL 43 yL_cell wsL_cell) := goodIn_app (goodIn_of _ (by decide +kernel)) ggL_in_L_cell
theorem dL_in_0 : decode cL_in 0 = .ok (.aload_n 0, 1) := by decide +kernel
theorem dL_in_1 : decode cL_in 1 = .ok (.iload_n 1, 1) := by decide +kernel
theorem dL_in_2 : decode cL_in 2 = .ok (.invokestatic 43, 3) := by decide +kernel
theorem dL_in_5 : decode cL_in 5 = .ok (.ldc 49, 2) := by decide +kernel
theorem dL_in_7 : decode cL_in 7 = .ok (.iand, 1) := by decide +kernel
theorem dL_in_8 : decode cL_in 8 = .ok (.iload_n 2, 1) := by decide +kernel
theorem dL_in_9 : decode cL_in 9 = .ok (.irem, 1) := by decide +kernel
theorem dL_in_10 : decode cL_in 10 = .ok (.ireturn, 1) := by decide +kernel
theorem dL_product_0 : decode cL_product 0 = .ok (.iconst 0, 1) := by decide +kernel
theorem dL_product_1 : decode cL_product 1 = .ok (.istore_n 2, 1) := by decide +kernel
theorem dL_product_2 : decode cL_product 2 = .ok (.iload_n 0, 1) := by decide +kernel
theorem dL_product_3 : decode cL_product 3 = .ok (.istore_n 3, 1) := by decide +kernel
theorem dL_product_4 : decode cL_product 4 = .ok (.iconst 0, 1) := by decide +kernel
theorem dL_product_5 : decode cL_product 5 = .ok (.istore 4, 2) := by decide +kernel
theorem dL_product_7 : decode cL_product 7 = .ok (.iload 4, 2) := by decide +kernel
theorem dL_product_9 : decode cL_product 9 = .ok (.iconst 4, 1) := by decide +kernel
theorem dL_product_10 : decode cL_product 10 = .ok (.if_icmp .ge 39, 3) := by decide +kernel
theorem dL_product_13 : decode cL_product 13 = .ok (.iload_n 2, 1) := by decide +kernel
theorem dL_product_14 : decode cL_product 14 = .ok (.iload_n 1, 1) := by decide +kernel
theorem dL_product_15 : decode cL_product 15 = .ok (.iload 4, 2) := by decide +kernel
theorem dL_product_17 : decode cL_product 17 = .ok (.ishr, 1) := by decide +kernel
theorem dL_product_18 : decode cL_product 18 = .ok (.iconst 1, 1) := by decide +kernel
theorem dL_product_19 : decode cL_product 19 = .ok (.iand, 1) := by decide +kernel
theorem dL_product_20 : decode cL_product 20 = .ok (.iload_n 3, 1) := by decide +kernel
theorem dL_product_21 : decode cL_product 21 = .ok (.imul, 1) := by decide +kernel
theorem dL_product_22 : decode cL_product 22 = .ok (.ixor, 1) := by decide +kernel
theorem dL_product_23 : decode cL_product 23 = .ok (.istore_n 2, 1) := by decide +kernel
theorem dL_product_24 : decode cL_product 24 = .ok (.iload_n 3, 1) := by decide +kernel
theorem dL_product_25 : decode cL_product 25 = .ok (.bipush 8, 2) := by decide +kernel
theorem dL_product_27 : decode cL_product 27 = .ok (.if_icmp .ge 9, 3) := by decide +kernel
theorem dL_product_30 : decode cL_product 30 = .ok (.iconst 2, 1) := by decide +kernel
theorem dL_product_31 : decode cL_product 31 = .ok (.iload_n 3, 1) := by decide +kernel
theorem dL_product_32 : decode cL_product 32 = .ok (.imul, 1) := by decide +kernel
theorem dL_product_33 : decode cL_product 33 = .ok (.goto 9, 3) := by decide +kernel
theorem dL_product_36 : decode cL_product 36 = .ok (.iconst 2, 1) := by decide +kernel
theorem dL_product_37 : decode cL_product 37 = .ok (.iload_n 3, 1) := by decide +kernel
theorem dL_product_38 : decode cL_product 38 = .ok (.imul, 1) := by decide +kernel
theorem dL_product_39 : decode cL_product 39 = .ok (.bipush 19, 2) := by decide +kernel
theorem dL_product_41 : decode cL_product 41 = .ok (.ixor, 1) := by decide +kernel
theorem dL_product_42 : decode cL_product 42 = .ok (.istore_n 3, 1) := by decide +kernel
theorem dL_product_43 : decode cL_product 43 = .ok (.iinc 4 1, 3) := by decide +kernel
theorem dL_product_46 : decode cL_product 46 = .ok (.goto (-39), 3) := by decide +kernel
theorem dL_product_49 : decode cL_product 49 = .ok (.iload_n 2, 1) := by decide +kernel
theorem dL_product_50 : decode cL_product 50 = .ok (.ireturn, 1) := by decide +kernel
theorem dL_nibble_0 : decode cL_nibble 0 = .ok (.lload_n 0, 1) := by decide +kernel
theorem dL_nibble_1 : decode cL_nibble 1 = .ok (.iconst 4, 1) := by decide +kernel
theorem dL_nibble_2 : decode cL_nibble 2 = .ok (.iload_n 2, 1) := by decide +kernel
theorem dL_nibble_3 : decode cL_nibble 3 = .ok (.imul, 1) := by decide +kernel
theorem dL_nibble_4 : decode cL_nibble 4 = .ok (.lshr, 1) := by decide +kernel
theorem dL_nibble_5 : decode cL_nibble 5 = .ok (.ldc2_w 50, 3) := by decide +kernel
theorem dL_nibble_8 : decode cL_nibble 8 = .ok (.land, 1) := by decide +kernel
theorem dL_nibble_9 : decode cL_nibble 9 = .ok (.l2i, 1) := by decide +kernel
theorem dL_nibble_10 : decode cL_nibble 10 = .ok (.ireturn, 1) := by decide +kernel
set_option maxRecDepth 20000 in
theorem ggL_isWord_L_nibble : GoodIn wsL_isWord wsL_nibble := goodIn_r _ [4, 5] (by decide +kernel) (by decide +kernel)
set_option maxRecDepth 20000 in
theorem gL_isWord_L_nibble : GoodIn wsL_isWord (va_wsS RL 52 yL_nibble wsL_nibble) := goodIn_app (goodIn_of _ (by decide +kernel)) ggL_isWord_L_nibble
set_option maxRecDepth 20000 in
theorem ggL_isWord_L_product : GoodIn wsL_isWord wsL_product := goodIn_r _ [8] (by decide +kernel) (by decide +kernel)
set_option maxRecDepth 20000 in
theorem gL_isWord_L_product : GoodIn wsL_isWord (va_wsS RL 55 yL_product wsL_product) := goodIn_app (goodIn_of _ (by decide +kernel)) ggL_isWord_L_product
theorem dL_isWord_0 : decode cL_isWord 0 = .ok (.iconst 1, 1) := by decide +kernel
theorem dL_isWord_1 : decode cL_isWord 1 = .ok (.istore_n 2, 1) := by decide +kernel
theorem dL_isWord_2 : decode cL_isWord 2 = .ok (.iconst 1, 1) := by decide +kernel
theorem dL_isWord_3 : decode cL_isWord 3 = .ok (.istore_n 3, 1) := by decide +kernel
theorem dL_isWord_4 : decode cL_isWord 4 = .ok (.iconst 0, 1) := by decide +kernel
theorem dL_isWord_5 : decode cL_isWord 5 = .ok (.istore 4, 2) := by decide +kernel
theorem dL_isWord_7 : decode cL_isWord 7 = .ok (.iload 4, 2) := by decide +kernel
theorem dL_isWord_9 : decode cL_isWord 9 = .ok (.iconst 4, 1) := by decide +kernel
theorem dL_isWord_10 : decode cL_isWord 10 = .ok (.if_icmp .ge 74, 3) := by decide +kernel
theorem dL_isWord_13 : decode cL_isWord 13 = .ok (.iconst 0, 1) := by decide +kernel
theorem dL_isWord_14 : decode cL_isWord 14 = .ok (.istore 5, 2) := by decide +kernel
theorem dL_isWord_16 : decode cL_isWord 16 = .ok (.iconst 1, 1) := by decide +kernel
theorem dL_isWord_17 : decode cL_isWord 17 = .ok (.istore 6, 2) := by decide +kernel
theorem dL_isWord_19 : decode cL_isWord 19 = .ok (.iconst 0, 1) := by decide +kernel
theorem dL_isWord_20 : decode cL_isWord 20 = .ok (.istore 7, 2) := by decide +kernel
theorem dL_isWord_22 : decode cL_isWord 22 = .ok (.iload 7, 2) := by decide +kernel
theorem dL_isWord_24 : decode cL_isWord 24 = .ok (.bipush 8, 2) := by decide +kernel
theorem dL_isWord_26 : decode cL_isWord 26 = .ok (.if_icmp .ge 33, 3) := by decide +kernel
theorem dL_isWord_29 : decode cL_isWord 29 = .ok (.iload 5, 2) := by decide +kernel
theorem dL_isWord_31 : decode cL_isWord 31 = .ok (.lload_n 0, 1) := by decide +kernel
theorem dL_isWord_32 : decode cL_isWord 32 = .ok (.iload 7, 2) := by decide +kernel
theorem dL_isWord_34 : decode cL_isWord 34 = .ok (.invokestatic 52, 3) := by decide +kernel
theorem dL_isWord_37 : decode cL_isWord 37 = .ok (.iload 6, 2) := by decide +kernel
theorem dL_isWord_39 : decode cL_isWord 39 = .ok (.invokestatic 55, 3) := by decide +kernel
theorem dL_isWord_42 : decode cL_isWord 42 = .ok (.ixor, 1) := by decide +kernel
theorem dL_isWord_43 : decode cL_isWord 43 = .ok (.istore 5, 2) := by decide +kernel
theorem dL_isWord_45 : decode cL_isWord 45 = .ok (.iload 6, 2) := by decide +kernel
theorem dL_isWord_47 : decode cL_isWord 47 = .ok (.iload_n 3, 1) := by decide +kernel
theorem dL_isWord_48 : decode cL_isWord 48 = .ok (.invokestatic 55, 3) := by decide +kernel
theorem dL_isWord_51 : decode cL_isWord 51 = .ok (.istore 6, 2) := by decide +kernel
theorem dL_isWord_53 : decode cL_isWord 53 = .ok (.iinc 7 1, 3) := by decide +kernel
theorem dL_isWord_56 : decode cL_isWord 56 = .ok (.goto (-34), 3) := by decide +kernel
theorem dL_isWord_59 : decode cL_isWord 59 = .ok (.iload_n 2, 1) := by decide +kernel
theorem dL_isWord_60 : decode cL_isWord 60 = .ok (.iload 5, 2) := by decide +kernel
theorem dL_isWord_62 : decode cL_isWord 62 = .ok (.ifCond .ne 7, 3) := by decide +kernel
theorem dL_isWord_65 : decode cL_isWord 65 = .ok (.iconst 1, 1) := by decide +kernel
theorem dL_isWord_66 : decode cL_isWord 66 = .ok (.goto 4, 3) := by decide +kernel
theorem dL_isWord_69 : decode cL_isWord 69 = .ok (.iconst 0, 1) := by decide +kernel
theorem dL_isWord_70 : decode cL_isWord 70 = .ok (.iand, 1) := by decide +kernel
theorem dL_isWord_71 : decode cL_isWord 71 = .ok (.istore_n 2, 1) := by decide +kernel
theorem dL_isWord_72 : decode cL_isWord 72 = .ok (.iload_n 3, 1) := by decide +kernel
theorem dL_isWord_73 : decode cL_isWord 73 = .ok (.iconst 2, 1) := by decide +kernel
theorem dL_isWord_74 : decode cL_isWord 74 = .ok (.invokestatic 55, 3) := by decide +kernel
theorem dL_isWord_77 : decode cL_isWord 77 = .ok (.istore_n 3, 1) := by decide +kernel
theorem dL_isWord_78 : decode cL_isWord 78 = .ok (.iinc 4 1, 3) := by decide +kernel
theorem dL_isWord_81 : decode cL_isWord 81 = .ok (.goto (-74), 3) := by decide +kernel
theorem dL_isWord_84 : decode cL_isWord 84 = .ok (.iload_n 2, 1) := by decide +kernel
theorem dL_isWord_85 : decode cL_isWord 85 = .ok (.ireturn, 1) := by decide +kernel
set_option maxRecDepth 20000 in
theorem ggL_law_X8_init : GoodIn wsL_law wsX8_init := goodIn_r _ [14, 15, 16, 17, 18, 19, 20, 21, 22, 23, 24, 25, 26, 27, 28, 29, 30, 31, 32, 33, 34, 35, 36, 37, 38, 39, 40, 41, 42, 43, 44, 45, 46, 47, 48, 49, 50, 51, 52, 53, 54, 55, 56, 57, 58, 59, 60, 61, 62, 63, 64, 65, 66, 67, 68, 69, 70, 71, 72, 73, 74, 75, 76, 77, 78, 79, 80, 81, 82, 83, 84, 85, 86, 87, 88, 89, 90, 91, 92, 93, 94, 95, 96, 97, 98, 99, 100, 101, 102, 103, 104, 105, 106, 107, 108, 109, 110, 111, 112, 353, 354, 355, 356, 357, 358, 345, 346, 347, 348, 349, 350, 351, 352, 359, 360, 361, 362, 363, 364, 365, 366, 367, 368, 369, 370, 371, 372, 373, 374, 375, 376, 377, 378, 379, 380, 381, 382, 383, 384] (by decide +kernel) (by decide +kernel)
set_option maxRecDepth 20000 in
theorem gL_law_X8_init : GoodIn wsL_law (wsX8_init) := ggL_law_X8_init
set_option maxRecDepth 20000 in
theorem ggL_law_L_word : GoodIn wsL_law wsL_word := goodIn_ca (goodIn_r _ [116, 117, 4, 118, 119, 120, 2, 121, 122, 123, 124, 125, 126, 127, 128, 129, 130, 131, 132, 133, 134, 135, 136, 137, 138, 139, 140, 141, 142, 143, 144, 145, 146, 147, 148, 149, 150, 151, 152, 153] (by decide +kernel) (by decide +kernel)) (goodIn_sub (fun _ h => List.mem_append_left _ (List.mem_append_left _ (List.mem_append_right _ h))) (by decide +kernel))
set_option maxRecDepth 20000 in
theorem gL_law_L_word : GoodIn wsL_law (va_wsS RL 60 yL_word wsL_word) := goodIn_app (goodIn_of _ (by decide +kernel)) ggL_law_L_word
set_option maxRecDepth 20000 in
theorem ggL_law_L_mend : GoodIn wsL_law wsL_mend := goodIn_ca (goodIn_ca (goodIn_r _ [156, 117, 157, 6, 9, 158, 159, 160, 2, 161, 162, 163, 164, 165, 166, 167, 168, 169, 123, 124, 125, 126, 127, 170, 171, 130, 172, 173, 132, 133, 134, 135, 136, 137, 138, 139, 140, 174, 175, 176, 177, 178, 179, 180, 144, 145, 146, 147, 141, 142, 143, 148, 149, 150, 151, 152, 153, 181, 182, 183, 184] (by decide +kernel) (by decide +kernel)) (goodIn_sub (fun _ h => List.mem_append_left _ (List.mem_append_right _ h)) (by decide +kernel))) (goodIn_sub (fun _ h => List.mem_append_left _ (List.mem_append_left _ (List.mem_append_right _ h))) (by decide +kernel))
set_option maxRecDepth 20000 in
theorem gL_law_L_mend : GoodIn wsL_law (va_wsS RL 65 yL_mend wsL_mend) := goodIn_app (goodIn_of _ (by decide +kernel)) ggL_law_L_mend
set_option maxRecDepth 20000 in
theorem ggL_law_L_mended : GoodIn wsL_law wsL_mended := goodIn_ca (goodIn_ca (goodIn_r _ [187, 117, 157, 6, 9, 188, 189, 190, 2, 191, 162, 163, 164, 165, 166, 167, 168, 169, 123, 124, 125, 126, 127, 170, 171, 130, 172, 173, 132, 133, 134, 135, 136, 137, 138, 139, 140, 174, 175, 176, 177, 178, 179, 180, 144, 145, 146, 147, 141, 142, 143, 148, 149, 150, 151, 152, 153, 192, 193, 194] (by decide +kernel) (by decide +kernel)) (goodIn_sub (fun _ h => List.mem_append_left _ (List.mem_append_right _ h)) (by decide +kernel))) (goodIn_sub (fun _ h => List.mem_append_left _ (List.mem_append_left _ (List.mem_append_right _ h))) (by decide +kernel))
set_option maxRecDepth 20000 in
theorem gL_law_L_mended : GoodIn wsL_law (va_wsS RL 68 yL_mended wsL_mended) := goodIn_app (goodIn_of _ (by decide +kernel)) ggL_law_L_mended
set_option maxRecDepth 20000 in
theorem ggL_law_L_in : GoodIn wsL_law wsL_in := goodIn_r _ [197, 11, 198, 199, 115, 200, 201, 202] (by decide +kernel) (by decide +kernel)
set_option maxRecDepth 20000 in
theorem gL_law_L_in : GoodIn wsL_law (va_wsS RL 70 yL_in wsL_in) := goodIn_app (goodIn_of _ (by decide +kernel)) ggL_law_L_in
set_option maxRecDepth 20000 in
theorem ggL_law_L_isWord : GoodIn wsL_law wsL_isWord := goodIn_r _ [205, 206, 207, 115, 208, 209, 210, 211, 212] (by decide +kernel) (by decide +kernel)
set_option maxRecDepth 20000 in
theorem gL_law_L_isWord : GoodIn wsL_law (va_wsS RL 74 yL_isWord wsL_isWord) := goodIn_app (goodIn_of _ (by decide +kernel)) ggL_law_L_isWord
set_option maxRecDepth 20000 in
theorem ggL_law_L_encode : GoodIn wsL_law wsL_encode := goodIn_ca (goodIn_r _ [215, 117, 6, 216, 217, 218, 2, 219, 168, 123, 124, 125, 126, 127, 220, 221, 222, 223] (by decide +kernel) (by decide +kernel)) (goodIn_sub (fun _ h => List.mem_append_left _ (List.mem_append_left _ (List.mem_append_right _ h))) (by decide +kernel))
set_option maxRecDepth 20000 in
theorem gL_law_L_encode : GoodIn wsL_law (va_wsS RL 82 yL_encode wsL_encode) := goodIn_app (goodIn_of _ (by decide +kernel)) ggL_law_L_encode
set_option maxRecDepth 20000 in
theorem ggL_law_L_decode : GoodIn wsL_law wsL_decode := goodIn_ca (goodIn_ca (goodIn_r _ [226, 117, 157, 6, 9, 227, 228, 229, 2, 230, 165, 166, 122, 123, 124, 125, 126, 127, 231, 232, 222, 233, 220, 221, 223] (by decide +kernel) (by decide +kernel)) (goodIn_sub (fun _ h => List.mem_append_left _ (List.mem_append_right _ h)) (by decide +kernel))) (goodIn_sub (fun _ h => List.mem_append_left _ (List.mem_append_left _ (List.mem_append_right _ h))) (by decide +kernel))
set_option maxRecDepth 20000 in
theorem gL_law_L_decode : GoodIn wsL_law (va_wsS RL 85 yL_decode wsL_decode) := goodIn_app (goodIn_of _ (by decide +kernel)) ggL_law_L_decode
set_option maxRecDepth 20000 in
theorem ggL_law_X8_guess : GoodIn wsL_law wsX8_guess := goodIn_r _ [237, 21, 238, 239, 240, 20, 241, 46, 242, 47, 45, 44, 243, 96, 97, 43, 98, 55, 244, 245, 246, 247, 248, 249, 250, 251, 252, 253, 254, 255, 48, 49, 256, 257, 258, 259, 260, 261, 262, 263, 345, 346, 347, 348, 349, 350, 351, 352, 353, 354, 355, 356, 357, 358, 382] (by decide +kernel) (by decide +kernel)
set_option maxRecDepth 20000 in
theorem gL_law_X8_guess : GoodIn wsL_law (wsV RL 87 RX8 yX8_guess wsX8_guess) := goodIn_app (goodIn_of _ (by decide +kernel)) ggL_law_X8_guess
set_option maxRecDepth 20000 in
theorem ggL_law_L_sample : GoodIn wsL_law wsL_sample := goodIn_ca (goodIn_ca (goodIn_r _ [266, 117, 267, 6, 9, 268, 269, 270, 2, 271, 272, 273, 274, 275, 21, 123, 124, 125, 126, 127, 276, 277, 278, 20, 279, 45, 280, 281, 282, 283, 44, 244, 245, 246, 43, 247, 55, 345, 346, 347, 348, 349, 350, 351, 352, 353, 354, 355, 356, 357, 358, 382] (by decide +kernel) (by decide +kernel)) (goodIn_sub (fun _ h => List.mem_append_right _ h) (by decide +kernel))) (goodIn_sub (fun _ h => List.mem_append_left _ (List.mem_append_left _ (List.mem_append_right _ h))) (by decide +kernel))
set_option maxRecDepth 20000 in
theorem gL_law_L_sample : GoodIn wsL_law (va_wsS RL 91 yL_sample wsL_sample) := goodIn_app (goodIn_of _ (by decide +kernel)) ggL_law_L_sample
set_option maxRecDepth 20000 in
theorem ggL_law_X8_isSound : GoodIn wsL_law wsX8_isSound := goodIn_r _ [287, 29, 25, 288, 289, 290, 28, 291, 78, 85, 77, 79, 292, 249, 250, 43, 251, 55, 293, 294, 295, 296, 263, 297, 298, 299, 300, 301, 302, 303, 304, 72, 71, 305, 306, 307, 70, 308, 91, 93, 309, 310, 311, 312, 313, 314, 315, 316, 317, 92, 318, 260, 261, 262, 319, 171, 130, 172, 173, 132, 133, 134, 135, 136, 137, 138, 139, 140, 174, 175, 176, 177, 178, 179, 180, 144, 145, 146, 147, 141, 142, 143, 148, 149, 150, 151, 152, 153, 320, 182, 183, 184, 321, 322, 323, 324, 325, 326, 327, 328, 74, 329, 330, 331, 332, 24, 333, 62, 60, 334, 335, 336, 337, 338, 339, 340, 341, 342, 343, 344, 345, 346, 347, 348, 349, 350, 351, 352, 362, 363, 364, 365, 366, 367, 368, 369, 370, 371, 372, 373, 374, 382, 383, 384, 359, 360, 361] (by decide +kernel) (by decide +kernel)
set_option maxRecDepth 20000 in
theorem gL_law_X8_isSound : GoodIn wsL_law (wsV RL 96 RX8 yX8_isSound wsX8_isSound) := goodIn_app (goodIn_of _ (by decide +kernel)) ggL_law_X8_isSound
abbrev vwCl : List vw_C := [(RX0, TX0, 3), (RX2, TX2, 6), (RX3, TX3, 13), (RX4, TX4, 1), (RX5, TX5, 7), (RX6, TX6, 2), (RX8, TX8, 8)]
end
section
theorem dL_law_0 : decode cL_law 0 = .ok (.new 10, 3) := by decide +kernel
theorem dL_law_3 : decode cL_law 3 = .ok (.dup, 1) := by decide +kernel
theorem dL_law_4 : decode cL_law 4 = .ok (.invokespecial 58, 3) := by decide +kernel
theorem dL_law_7 : decode cL_law 7 = .ok (.astore_n 1, 1) := by decide +kernel
theorem dL_law_8 : decode cL_law 8 = .ok (.aload_n 1, 1) := by decide +kernel
theorem dL_law_9 : decode cL_law 9 = .ok (.ldc 59, 2) := by decide +kernel
theorem dL_law_11 : decode cL_law 11 = .ok (.invokestatic 60, 3) := by decide +kernel
theorem dL_law_14 : decode cL_law 14 = .ok (.ldc2_w 17, 3) := by decide +kernel
theorem dL_law_17 : decode cL_law 17 = .ok (.lcmp, 1) := by decide +kernel
theorem dL_law_18 : decode cL_law 18 = .ok (.ifCond .ne 52, 3) := by decide +kernel
theorem dL_law_21 : decode cL_law 21 = .ok (.aload_n 1, 1) := by decide +kernel
theorem dL_law_22 : decode cL_law 22 = .ok (.iconst 0, 1) := by decide +kernel
theorem dL_law_23 : decode cL_law 23 = .ok (.invokestatic 60, 3) := by decide +kernel
theorem dL_law_26 : decode cL_law 26 = .ok (.lconst 0, 1) := by decide +kernel
theorem dL_law_27 : decode cL_law 27 = .ok (.lcmp, 1) := by decide +kernel
theorem dL_law_28 : decode cL_law 28 = .ok (.ifCond .ne 42, 3) := by decide +kernel
theorem dL_law_31 : decode cL_law 31 = .ok (.aload_n 1, 1) := by decide +kernel
theorem dL_law_32 : decode cL_law 32 = .ok (.ldc2_w 63, 3) := by decide +kernel
theorem dL_law_35 : decode cL_law 35 = .ok (.iconst 0, 1) := by decide +kernel
theorem dL_law_36 : decode cL_law 36 = .ok (.invokestatic 65, 3) := by decide +kernel
theorem dL_law_39 : decode cL_law 39 = .ok (.ldc 23, 2) := by decide +kernel
theorem dL_law_41 : decode cL_law 41 = .ok (.if_icmp .ne 29, 3) := by decide +kernel
theorem dL_law_44 : decode cL_law 44 = .ok (.aload_n 1, 1) := by decide +kernel
theorem dL_law_45 : decode cL_law 45 = .ok (.lconst 0, 1) := by decide +kernel
theorem dL_law_46 : decode cL_law 46 = .ok (.sipush 256, 3) := by decide +kernel
theorem dL_law_49 : decode cL_law 49 = .ok (.invokestatic 65, 3) := by decide +kernel
theorem dL_law_52 : decode cL_law 52 = .ok (.ldc 23, 2) := by decide +kernel
theorem dL_law_54 : decode cL_law 54 = .ok (.if_icmp .ne 16, 3) := by decide +kernel
theorem dL_law_57 : decode cL_law 57 = .ok (.aload_n 1, 1) := by decide +kernel
theorem dL_law_58 : decode cL_law 58 = .ok (.lconst 0, 1) := by decide +kernel
theorem dL_law_59 : decode cL_law 59 = .ok (.iconst 0, 1) := by decide +kernel
theorem dL_law_60 : decode cL_law 60 = .ok (.invokestatic 68, 3) := by decide +kernel
theorem dL_law_63 : decode cL_law 63 = .ok (.ifCond .ne 7, 3) := by decide +kernel
theorem dL_law_66 : decode cL_law 66 = .ok (.iconst 1, 1) := by decide +kernel
theorem dL_law_67 : decode cL_law 67 = .ok (.goto 4, 3) := by decide +kernel
theorem dL_law_70 : decode cL_law 70 = .ok (.iconst 0, 1) := by decide +kernel
theorem dL_law_71 : decode cL_law 71 = .ok (.istore_n 2, 1) := by decide +kernel
theorem dL_law_72 : decode cL_law 72 = .ok (.iconst 0, 1) := by decide +kernel
theorem dL_law_73 : decode cL_law 73 = .ok (.istore_n 3, 1) := by decide +kernel
theorem dL_law_74 : decode cL_law 74 = .ok (.iload_n 3, 1) := by decide +kernel
theorem dL_law_75 : decode cL_law 75 = .ok (.bipush 6, 2) := by decide +kernel
theorem dL_law_77 : decode cL_law 77 = .ok (.if_icmp .ge 695, 3) := by decide +kernel
theorem dL_law_80 : decode cL_law 80 = .ok (.aload_n 0, 1) := by decide +kernel
theorem dL_law_81 : decode cL_law 81 = .ok (.iload_n 3, 1) := by decide +kernel
theorem dL_law_82 : decode cL_law 82 = .ok (.ldc 59, 2) := by decide +kernel
theorem dL_law_84 : decode cL_law 84 = .ok (.invokestatic 70, 3) := by decide +kernel
theorem dL_law_87 : decode cL_law 87 = .ok (.istore 4, 2) := by decide +kernel
theorem dL_law_89 : decode cL_law 89 = .ok (.aload_n 1, 1) := by decide +kernel
theorem dL_law_90 : decode cL_law 90 = .ok (.iload 4, 2) := by decide +kernel
theorem dL_law_92 : decode cL_law 92 = .ok (.invokestatic 60, 3) := by decide +kernel
theorem dL_law_95 : decode cL_law 95 = .ok (.lstore 5, 2) := by decide +kernel
theorem dL_law_97 : decode cL_law 97 = .ok (.iload_n 2, 1) := by decide +kernel
theorem dL_law_98 : decode cL_law 98 = .ok (.lload 5, 2) := by decide +kernel
theorem dL_law_100 : decode cL_law 100 = .ok (.invokestatic 74, 3) := by decide +kernel
theorem dL_law_103 : decode cL_law 103 = .ok (.ifCond .eq 49, 3) := by decide +kernel
theorem dL_law_106 : decode cL_law 106 = .ok (.lload 5, 2) := by decide +kernel
theorem dL_law_108 : decode cL_law 108 = .ok (.ldc2_w 78, 3) := by decide +kernel
theorem dL_law_111 : decode cL_law 111 = .ok (.land, 1) := by decide +kernel
theorem dL_law_112 : decode cL_law 112 = .ok (.iload 4, 2) := by decide +kernel
theorem dL_law_114 : decode cL_law 114 = .ok (.i2l, 1) := by decide +kernel
theorem dL_law_115 : decode cL_law 115 = .ok (.lcmp, 1) := by decide +kernel
theorem dL_law_116 : decode cL_law 116 = .ok (.ifCond .ne 36, 3) := by decide +kernel
theorem dL_law_119 : decode cL_law 119 = .ok (.lload 5, 2) := by decide +kernel
theorem dL_law_121 : decode cL_law 121 = .ok (.lconst 0, 1) := by decide +kernel
theorem dL_law_122 : decode cL_law 122 = .ok (.lcmp, 1) := by decide +kernel
theorem dL_law_123 : decode cL_law 123 = .ok (.ifCond .lt 29, 3) := by decide +kernel
theorem dL_law_126 : decode cL_law 126 = .ok (.aload_n 1, 1) := by decide +kernel
theorem dL_law_127 : decode cL_law 127 = .ok (.lload 5, 2) := by decide +kernel
theorem dL_law_129 : decode cL_law 129 = .ok (.iconst 0, 1) := by decide +kernel
theorem dL_law_130 : decode cL_law 130 = .ok (.invokestatic 65, 3) := by decide +kernel
theorem dL_law_133 : decode cL_law 133 = .ok (.iload 4, 2) := by decide +kernel
theorem dL_law_135 : decode cL_law 135 = .ok (.if_icmp .ne 17, 3) := by decide +kernel
theorem dL_law_138 : decode cL_law 138 = .ok (.aload_n 1, 1) := by decide +kernel
theorem dL_law_139 : decode cL_law 139 = .ok (.lload 5, 2) := by decide +kernel
theorem dL_law_141 : decode cL_law 141 = .ok (.iconst 0, 1) := by decide +kernel
theorem dL_law_142 : decode cL_law 142 = .ok (.invokestatic 68, 3) := by decide +kernel
theorem dL_law_145 : decode cL_law 145 = .ok (.ifCond .ne 7, 3) := by decide +kernel
theorem dL_law_148 : decode cL_law 148 = .ok (.iconst 1, 1) := by decide +kernel
theorem dL_law_149 : decode cL_law 149 = .ok (.goto 4, 3) := by decide +kernel
theorem dL_law_152 : decode cL_law 152 = .ok (.iconst 0, 1) := by decide +kernel
theorem dL_law_153 : decode cL_law 153 = .ok (.iand, 1) := by decide +kernel
theorem dL_law_154 : decode cL_law 154 = .ok (.istore_n 2, 1) := by decide +kernel
theorem dL_law_155 : decode cL_law 155 = .ok (.aload_n 0, 1) := by decide +kernel
theorem dL_law_156 : decode cL_law 156 = .ok (.bipush 10, 2) := by decide +kernel
theorem dL_law_158 : decode cL_law 158 = .ok (.iload_n 3, 1) := by decide +kernel
theorem dL_law_159 : decode cL_law 159 = .ok (.iadd, 1) := by decide +kernel
theorem dL_law_160 : decode cL_law 160 = .ok (.bipush 8, 2) := by decide +kernel
theorem dL_law_162 : decode cL_law 162 = .ok (.invokestatic 70, 3) := by decide +kernel
theorem dL_law_165 : decode cL_law 165 = .ok (.istore 7, 2) := by decide +kernel
theorem dL_law_167 : decode cL_law 167 = .ok (.iload 7, 2) := by decide +kernel
theorem dL_law_169 : decode cL_law 169 = .ok (.iconst 1, 1) := by decide +kernel
theorem dL_law_170 : decode cL_law 170 = .ok (.iadd, 1) := by decide +kernel
theorem dL_law_171 : decode cL_law 171 = .ok (.aload_n 0, 1) := by decide +kernel
theorem dL_law_172 : decode cL_law 172 = .ok (.bipush 20, 2) := by decide +kernel
theorem dL_law_174 : decode cL_law 174 = .ok (.iload_n 3, 1) := by decide +kernel
theorem dL_law_175 : decode cL_law 175 = .ok (.iadd, 1) := by decide +kernel
theorem dL_law_176 : decode cL_law 176 = .ok (.bipush 7, 2) := by decide +kernel
theorem dL_law_178 : decode cL_law 178 = .ok (.invokestatic 70, 3) := by decide +kernel
theorem dL_law_181 : decode cL_law 181 = .ok (.iadd, 1) := by decide +kernel
theorem dL_law_182 : decode cL_law 182 = .ok (.bipush 8, 2) := by decide +kernel
theorem dL_law_184 : decode cL_law 184 = .ok (.irem, 1) := by decide +kernel
theorem dL_law_185 : decode cL_law 185 = .ok (.istore 8, 2) := by decide +kernel
theorem dL_law_187 : decode cL_law 187 = .ok (.iconst 1, 1) := by decide +kernel
theorem dL_law_188 : decode cL_law 188 = .ok (.aload_n 0, 1) := by decide +kernel
theorem dL_law_189 : decode cL_law 189 = .ok (.bipush 30, 2) := by decide +kernel
theorem dL_law_191 : decode cL_law 191 = .ok (.iload_n 3, 1) := by decide +kernel
theorem dL_law_192 : decode cL_law 192 = .ok (.iadd, 1) := by decide +kernel
theorem dL_law_193 : decode cL_law 193 = .ok (.bipush 15, 2) := by decide +kernel
theorem dL_law_195 : decode cL_law 195 = .ok (.invokestatic 70, 3) := by decide +kernel
theorem dL_law_198 : decode cL_law 198 = .ok (.iadd, 1) := by decide +kernel
theorem dL_law_199 : decode cL_law 199 = .ok (.istore 9, 2) := by decide +kernel
theorem dL_law_201 : decode cL_law 201 = .ok (.iconst 1, 1) := by decide +kernel
theorem dL_law_202 : decode cL_law 202 = .ok (.aload_n 0, 1) := by decide +kernel
theorem dL_law_203 : decode cL_law 203 = .ok (.bipush 40, 2) := by decide +kernel
theorem dL_law_205 : decode cL_law 205 = .ok (.iload_n 3, 1) := by decide +kernel
theorem dL_law_206 : decode cL_law 206 = .ok (.iadd, 1) := by decide +kernel
theorem dL_law_207 : decode cL_law 207 = .ok (.bipush 15, 2) := by decide +kernel
theorem dL_law_209 : decode cL_law 209 = .ok (.invokestatic 70, 3) := by decide +kernel
theorem dL_law_212 : decode cL_law 212 = .ok (.iadd, 1) := by decide +kernel
theorem dL_law_213 : decode cL_law 213 = .ok (.istore 10, 2) := by decide +kernel
theorem dL_law_215 : decode cL_law 215 = .ok (.lload 5, 2) := by decide +kernel
theorem dL_law_217 : decode cL_law 217 = .ok (.iload 9, 2) := by decide +kernel
theorem dL_law_219 : decode cL_law 219 = .ok (.i2l, 1) := by decide +kernel
theorem dL_law_220 : decode cL_law 220 = .ok (.iconst 4, 1) := by decide +kernel
theorem dL_law_221 : decode cL_law 221 = .ok (.iload 7, 2) := by decide +kernel
theorem dL_law_223 : decode cL_law 223 = .ok (.imul, 1) := by decide +kernel
theorem dL_law_224 : decode cL_law 224 = .ok (.lshl, 1) := by decide +kernel
theorem dL_law_225 : decode cL_law 225 = .ok (.lxor, 1) := by decide +kernel
theorem dL_law_226 : decode cL_law 226 = .ok (.lstore 11, 2) := by decide +kernel
theorem dL_law_228 : decode cL_law 228 = .ok (.lload 11, 2) := by decide +kernel
theorem dL_law_230 : decode cL_law 230 = .ok (.iload 10, 2) := by decide +kernel
theorem dL_law_232 : decode cL_law 232 = .ok (.i2l, 1) := by decide +kernel
theorem dL_law_233 : decode cL_law 233 = .ok (.iconst 4, 1) := by decide +kernel
theorem dL_law_234 : decode cL_law 234 = .ok (.iload 8, 2) := by decide +kernel
theorem dL_law_236 : decode cL_law 236 = .ok (.imul, 1) := by decide +kernel
theorem dL_law_237 : decode cL_law 237 = .ok (.lshl, 1) := by decide +kernel
theorem dL_law_238 : decode cL_law 238 = .ok (.lxor, 1) := by decide +kernel
theorem dL_law_239 : decode cL_law 239 = .ok (.lstore 13, 2) := by decide +kernel
theorem dL_law_241 : decode cL_law 241 = .ok (.iload_n 2, 1) := by decide +kernel
theorem dL_law_242 : decode cL_law 242 = .ok (.aload_n 1, 1) := by decide +kernel
theorem dL_law_243 : decode cL_law 243 = .ok (.lload 11, 2) := by decide +kernel
theorem dL_law_245 : decode cL_law 245 = .ok (.iconst 0, 1) := by decide +kernel
theorem dL_law_246 : decode cL_law 246 = .ok (.invokestatic 65, 3) := by decide +kernel
theorem dL_law_249 : decode cL_law 249 = .ok (.iload 4, 2) := by decide +kernel
theorem dL_law_251 : decode cL_law 251 = .ok (.if_icmp .ne 41, 3) := by decide +kernel
theorem dL_law_254 : decode cL_law 254 = .ok (.aload_n 1, 1) := by decide +kernel
theorem dL_law_255 : decode cL_law 255 = .ok (.lload 11, 2) := by decide +kernel
theorem dL_law_257 : decode cL_law 257 = .ok (.iconst 0, 1) := by decide +kernel
theorem dL_law_258 : decode cL_law 258 = .ok (.invokestatic 68, 3) := by decide +kernel
theorem dL_law_261 : decode cL_law 261 = .ok (.iconst 1, 1) := by decide +kernel
theorem dL_law_262 : decode cL_law 262 = .ok (.if_icmp .ne 30, 3) := by decide +kernel
theorem dL_law_265 : decode cL_law 265 = .ok (.aload_n 1, 1) := by decide +kernel
theorem dL_law_266 : decode cL_law 266 = .ok (.lload 13, 2) := by decide +kernel
theorem dL_law_268 : decode cL_law 268 = .ok (.iconst 0, 1) := by decide +kernel
end
section
theorem dL_law_269 : decode cL_law 269 = .ok (.invokestatic 65, 3) := by decide +kernel
theorem dL_law_272 : decode cL_law 272 = .ok (.iload 4, 2) := by decide +kernel
theorem dL_law_274 : decode cL_law 274 = .ok (.if_icmp .ne 18, 3) := by decide +kernel
theorem dL_law_277 : decode cL_law 277 = .ok (.aload_n 1, 1) := by decide +kernel
theorem dL_law_278 : decode cL_law 278 = .ok (.lload 13, 2) := by decide +kernel
theorem dL_law_280 : decode cL_law 280 = .ok (.iconst 0, 1) := by decide +kernel
theorem dL_law_281 : decode cL_law 281 = .ok (.invokestatic 68, 3) := by decide +kernel
theorem dL_law_284 : decode cL_law 284 = .ok (.iconst 2, 1) := by decide +kernel
theorem dL_law_285 : decode cL_law 285 = .ok (.if_icmp .ne 7, 3) := by decide +kernel
theorem dL_law_288 : decode cL_law 288 = .ok (.iconst 1, 1) := by decide +kernel
theorem dL_law_289 : decode cL_law 289 = .ok (.goto 4, 3) := by decide +kernel
theorem dL_law_292 : decode cL_law 292 = .ok (.iconst 0, 1) := by decide +kernel
theorem dL_law_293 : decode cL_law 293 = .ok (.iand, 1) := by decide +kernel
theorem dL_law_294 : decode cL_law 294 = .ok (.istore_n 2, 1) := by decide +kernel
theorem dL_law_295 : decode cL_law 295 = .ok (.iconst 1, 1) := by decide +kernel
theorem dL_law_296 : decode cL_law 296 = .ok (.iload 7, 2) := by decide +kernel
theorem dL_law_298 : decode cL_law 298 = .ok (.ishl, 1) := by decide +kernel
theorem dL_law_299 : decode cL_law 299 = .ok (.iconst 1, 1) := by decide +kernel
theorem dL_law_300 : decode cL_law 300 = .ok (.iload 8, 2) := by decide +kernel
theorem dL_law_302 : decode cL_law 302 = .ok (.ishl, 1) := by decide +kernel
theorem dL_law_303 : decode cL_law 303 = .ok (.ior, 1) := by decide +kernel
theorem dL_law_304 : decode cL_law 304 = .ok (.istore 15, 2) := by decide +kernel
theorem dL_law_306 : decode cL_law 306 = .ok (.iload_n 2, 1) := by decide +kernel
theorem dL_law_307 : decode cL_law 307 = .ok (.aload_n 1, 1) := by decide +kernel
theorem dL_law_308 : decode cL_law 308 = .ok (.lload 13, 2) := by decide +kernel
theorem dL_law_310 : decode cL_law 310 = .ok (.iload 15, 2) := by decide +kernel
theorem dL_law_312 : decode cL_law 312 = .ok (.invokestatic 65, 3) := by decide +kernel
theorem dL_law_315 : decode cL_law 315 = .ok (.iload 4, 2) := by decide +kernel
theorem dL_law_317 : decode cL_law 317 = .ok (.if_icmp .ne 19, 3) := by decide +kernel
theorem dL_law_320 : decode cL_law 320 = .ok (.aload_n 1, 1) := by decide +kernel
theorem dL_law_321 : decode cL_law 321 = .ok (.lload 13, 2) := by decide +kernel
theorem dL_law_323 : decode cL_law 323 = .ok (.iload 15, 2) := by decide +kernel
theorem dL_law_325 : decode cL_law 325 = .ok (.invokestatic 68, 3) := by decide +kernel
theorem dL_law_328 : decode cL_law 328 = .ok (.iconst 2, 1) := by decide +kernel
theorem dL_law_329 : decode cL_law 329 = .ok (.if_icmp .ne 7, 3) := by decide +kernel
theorem dL_law_332 : decode cL_law 332 = .ok (.iconst 1, 1) := by decide +kernel
theorem dL_law_333 : decode cL_law 333 = .ok (.goto 4, 3) := by decide +kernel
theorem dL_law_336 : decode cL_law 336 = .ok (.iconst 0, 1) := by decide +kernel
theorem dL_law_337 : decode cL_law 337 = .ok (.iand, 1) := by decide +kernel
theorem dL_law_338 : decode cL_law 338 = .ok (.istore_n 2, 1) := by decide +kernel
theorem dL_law_339 : decode cL_law 339 = .ok (.aload_n 0, 1) := by decide +kernel
theorem dL_law_340 : decode cL_law 340 = .ok (.bipush 50, 2) := by decide +kernel
theorem dL_law_342 : decode cL_law 342 = .ok (.iload_n 3, 1) := by decide +kernel
theorem dL_law_343 : decode cL_law 343 = .ok (.iadd, 1) := by decide +kernel
theorem dL_law_344 : decode cL_law 344 = .ok (.bipush 8, 2) := by decide +kernel
theorem dL_law_346 : decode cL_law 346 = .ok (.invokestatic 70, 3) := by decide +kernel
theorem dL_law_349 : decode cL_law 349 = .ok (.istore 16, 2) := by decide +kernel
theorem dL_law_351 : decode cL_law 351 = .ok (.iconst 1, 1) := by decide +kernel
theorem dL_law_352 : decode cL_law 352 = .ok (.aload_n 0, 1) := by decide +kernel
theorem dL_law_353 : decode cL_law 353 = .ok (.bipush 60, 2) := by decide +kernel
theorem dL_law_355 : decode cL_law 355 = .ok (.iload_n 3, 1) := by decide +kernel
theorem dL_law_356 : decode cL_law 356 = .ok (.iadd, 1) := by decide +kernel
theorem dL_law_357 : decode cL_law 357 = .ok (.bipush 15, 2) := by decide +kernel
theorem dL_law_359 : decode cL_law 359 = .ok (.invokestatic 70, 3) := by decide +kernel
theorem dL_law_362 : decode cL_law 362 = .ok (.iadd, 1) := by decide +kernel
theorem dL_law_363 : decode cL_law 363 = .ok (.istore 17, 2) := by decide +kernel
theorem dL_law_365 : decode cL_law 365 = .ok (.iload 16, 2) := by decide +kernel
theorem dL_law_367 : decode cL_law 367 = .ok (.iload 7, 2) := by decide +kernel
theorem dL_law_369 : decode cL_law 369 = .ok (.if_icmp .eq 213, 3) := by decide +kernel
theorem dL_law_372 : decode cL_law 372 = .ok (.iload 16, 2) := by decide +kernel
theorem dL_law_374 : decode cL_law 374 = .ok (.iload 8, 2) := by decide +kernel
theorem dL_law_376 : decode cL_law 376 = .ok (.if_icmp .eq 206, 3) := by decide +kernel
theorem dL_law_379 : decode cL_law 379 = .ok (.lload 13, 2) := by decide +kernel
theorem dL_law_381 : decode cL_law 381 = .ok (.iload 17, 2) := by decide +kernel
theorem dL_law_383 : decode cL_law 383 = .ok (.i2l, 1) := by decide +kernel
theorem dL_law_384 : decode cL_law 384 = .ok (.iconst 4, 1) := by decide +kernel
theorem dL_law_385 : decode cL_law 385 = .ok (.iload 16, 2) := by decide +kernel
theorem dL_law_387 : decode cL_law 387 = .ok (.imul, 1) := by decide +kernel
theorem dL_law_388 : decode cL_law 388 = .ok (.lshl, 1) := by decide +kernel
theorem dL_law_389 : decode cL_law 389 = .ok (.lxor, 1) := by decide +kernel
theorem dL_law_390 : decode cL_law 390 = .ok (.lstore 18, 2) := by decide +kernel
theorem dL_law_392 : decode cL_law 392 = .ok (.iload_n 2, 1) := by decide +kernel
theorem dL_law_393 : decode cL_law 393 = .ok (.aload_n 1, 1) := by decide +kernel
theorem dL_law_394 : decode cL_law 394 = .ok (.lload 18, 2) := by decide +kernel
theorem dL_law_396 : decode cL_law 396 = .ok (.iload 15, 2) := by decide +kernel
theorem dL_law_398 : decode cL_law 398 = .ok (.invokestatic 65, 3) := by decide +kernel
theorem dL_law_401 : decode cL_law 401 = .ok (.iload 4, 2) := by decide +kernel
theorem dL_law_403 : decode cL_law 403 = .ok (.if_icmp .ne 19, 3) := by decide +kernel
theorem dL_law_406 : decode cL_law 406 = .ok (.aload_n 1, 1) := by decide +kernel
theorem dL_law_407 : decode cL_law 407 = .ok (.lload 18, 2) := by decide +kernel
theorem dL_law_409 : decode cL_law 409 = .ok (.iload 15, 2) := by decide +kernel
theorem dL_law_411 : decode cL_law 411 = .ok (.invokestatic 68, 3) := by decide +kernel
theorem dL_law_414 : decode cL_law 414 = .ok (.iconst 3, 1) := by decide +kernel
theorem dL_law_415 : decode cL_law 415 = .ok (.if_icmp .ne 7, 3) := by decide +kernel
theorem dL_law_418 : decode cL_law 418 = .ok (.iconst 1, 1) := by decide +kernel
theorem dL_law_419 : decode cL_law 419 = .ok (.goto 4, 3) := by decide +kernel
theorem dL_law_422 : decode cL_law 422 = .ok (.iconst 0, 1) := by decide +kernel
theorem dL_law_423 : decode cL_law 423 = .ok (.iand, 1) := by decide +kernel
theorem dL_law_424 : decode cL_law 424 = .ok (.istore_n 2, 1) := by decide +kernel
theorem dL_law_425 : decode cL_law 425 = .ok (.aload_n 0, 1) := by decide +kernel
theorem dL_law_426 : decode cL_law 426 = .ok (.bipush 70, 2) := by decide +kernel
theorem dL_law_428 : decode cL_law 428 = .ok (.iload_n 3, 1) := by decide +kernel
theorem dL_law_429 : decode cL_law 429 = .ok (.iadd, 1) := by decide +kernel
theorem dL_law_430 : decode cL_law 430 = .ok (.bipush 8, 2) := by decide +kernel
theorem dL_law_432 : decode cL_law 432 = .ok (.invokestatic 70, 3) := by decide +kernel
theorem dL_law_435 : decode cL_law 435 = .ok (.istore 20, 2) := by decide +kernel
theorem dL_law_437 : decode cL_law 437 = .ok (.iload 15, 2) := by decide +kernel
theorem dL_law_439 : decode cL_law 439 = .ok (.iload 20, 2) := by decide +kernel
theorem dL_law_441 : decode cL_law 441 = .ok (.ishr, 1) := by decide +kernel
theorem dL_law_442 : decode cL_law 442 = .ok (.iconst 1, 1) := by decide +kernel
theorem dL_law_443 : decode cL_law 443 = .ok (.iand, 1) := by decide +kernel
theorem dL_law_444 : decode cL_law 444 = .ok (.ifCond .ne 76, 3) := by decide +kernel
theorem dL_law_447 : decode cL_law 447 = .ok (.iload 20, 2) := by decide +kernel
theorem dL_law_449 : decode cL_law 449 = .ok (.iload 16, 2) := by decide +kernel
theorem dL_law_451 : decode cL_law 451 = .ok (.if_icmp .eq 69, 3) := by decide +kernel
theorem dL_law_454 : decode cL_law 454 = .ok (.lload 18, 2) := by decide +kernel
theorem dL_law_456 : decode cL_law 456 = .ok (.ldc2_w 80, 3) := by decide +kernel
theorem dL_law_459 : decode cL_law 459 = .ok (.iconst 4, 1) := by decide +kernel
theorem dL_law_460 : decode cL_law 460 = .ok (.iload 20, 2) := by decide +kernel
theorem dL_law_462 : decode cL_law 462 = .ok (.imul, 1) := by decide +kernel
theorem dL_law_463 : decode cL_law 463 = .ok (.lshl, 1) := by decide +kernel
theorem dL_law_464 : decode cL_law 464 = .ok (.lxor, 1) := by decide +kernel
theorem dL_law_465 : decode cL_law 465 = .ok (.lstore 21, 2) := by decide +kernel
theorem dL_law_467 : decode cL_law 467 = .ok (.iload_n 2, 1) := by decide +kernel
theorem dL_law_468 : decode cL_law 468 = .ok (.aload_n 1, 1) := by decide +kernel
theorem dL_law_469 : decode cL_law 469 = .ok (.lload 21, 2) := by decide +kernel
theorem dL_law_471 : decode cL_law 471 = .ok (.iload 15, 2) := by decide +kernel
theorem dL_law_473 : decode cL_law 473 = .ok (.iconst 1, 1) := by decide +kernel
theorem dL_law_474 : decode cL_law 474 = .ok (.iload 16, 2) := by decide +kernel
theorem dL_law_476 : decode cL_law 476 = .ok (.ishl, 1) := by decide +kernel
theorem dL_law_477 : decode cL_law 477 = .ok (.ior, 1) := by decide +kernel
theorem dL_law_478 : decode cL_law 478 = .ok (.iconst 1, 1) := by decide +kernel
theorem dL_law_479 : decode cL_law 479 = .ok (.iload 20, 2) := by decide +kernel
theorem dL_law_481 : decode cL_law 481 = .ok (.ishl, 1) := by decide +kernel
theorem dL_law_482 : decode cL_law 482 = .ok (.ior, 1) := by decide +kernel
theorem dL_law_483 : decode cL_law 483 = .ok (.invokestatic 65, 3) := by decide +kernel
theorem dL_law_486 : decode cL_law 486 = .ok (.iload 4, 2) := by decide +kernel
theorem dL_law_488 : decode cL_law 488 = .ok (.if_icmp .ne 29, 3) := by decide +kernel
theorem dL_law_491 : decode cL_law 491 = .ok (.aload_n 1, 1) := by decide +kernel
theorem dL_law_492 : decode cL_law 492 = .ok (.lload 21, 2) := by decide +kernel
theorem dL_law_494 : decode cL_law 494 = .ok (.iload 15, 2) := by decide +kernel
theorem dL_law_496 : decode cL_law 496 = .ok (.iconst 1, 1) := by decide +kernel
theorem dL_law_497 : decode cL_law 497 = .ok (.iload 16, 2) := by decide +kernel
theorem dL_law_499 : decode cL_law 499 = .ok (.ishl, 1) := by decide +kernel
theorem dL_law_500 : decode cL_law 500 = .ok (.ior, 1) := by decide +kernel
theorem dL_law_501 : decode cL_law 501 = .ok (.iconst 1, 1) := by decide +kernel
theorem dL_law_502 : decode cL_law 502 = .ok (.iload 20, 2) := by decide +kernel
theorem dL_law_504 : decode cL_law 504 = .ok (.ishl, 1) := by decide +kernel
theorem dL_law_505 : decode cL_law 505 = .ok (.ior, 1) := by decide +kernel
theorem dL_law_506 : decode cL_law 506 = .ok (.invokestatic 68, 3) := by decide +kernel
theorem dL_law_509 : decode cL_law 509 = .ok (.iconst 4, 1) := by decide +kernel
theorem dL_law_510 : decode cL_law 510 = .ok (.if_icmp .ne 7, 3) := by decide +kernel
theorem dL_law_513 : decode cL_law 513 = .ok (.iconst 1, 1) := by decide +kernel
theorem dL_law_514 : decode cL_law 514 = .ok (.goto 4, 3) := by decide +kernel
theorem dL_law_517 : decode cL_law 517 = .ok (.iconst 0, 1) := by decide +kernel
theorem dL_law_518 : decode cL_law 518 = .ok (.iand, 1) := by decide +kernel
theorem dL_law_519 : decode cL_law 519 = .ok (.istore_n 2, 1) := by decide +kernel
theorem dL_law_520 : decode cL_law 520 = .ok (.iconst 1, 1) := by decide +kernel
theorem dL_law_521 : decode cL_law 521 = .ok (.iload 16, 2) := by decide +kernel
theorem dL_law_523 : decode cL_law 523 = .ok (.ishl, 1) := by decide +kernel
theorem dL_law_524 : decode cL_law 524 = .ok (.istore 21, 2) := by decide +kernel
theorem dL_law_526 : decode cL_law 526 = .ok (.aload_n 1, 1) := by decide +kernel
theorem dL_law_527 : decode cL_law 527 = .ok (.lload 18, 2) := by decide +kernel
theorem dL_law_529 : decode cL_law 529 = .ok (.iload 21, 2) := by decide +kernel
end
section
theorem dL_law_531 : decode cL_law 531 = .ok (.invokestatic 65, 3) := by decide +kernel
theorem dL_law_534 : decode cL_law 534 = .ok (.istore 22, 2) := by decide +kernel
theorem dL_law_536 : decode cL_law 536 = .ok (.iload_n 2, 1) := by decide +kernel
theorem dL_law_537 : decode cL_law 537 = .ok (.iload 22, 2) := by decide +kernel
theorem dL_law_539 : decode cL_law 539 = .ok (.ldc 26, 2) := by decide +kernel
theorem dL_law_541 : decode cL_law 541 = .ok (.if_icmp .eq 34, 3) := by decide +kernel
theorem dL_law_544 : decode cL_law 544 = .ok (.iload 22, 2) := by decide +kernel
theorem dL_law_546 : decode cL_law 546 = .ok (.iload 4, 2) := by decide +kernel
theorem dL_law_548 : decode cL_law 548 = .ok (.if_icmp .eq 27, 3) := by decide +kernel
theorem dL_law_551 : decode cL_law 551 = .ok (.aload_n 1, 1) := by decide +kernel
theorem dL_law_552 : decode cL_law 552 = .ok (.lload 18, 2) := by decide +kernel
theorem dL_law_554 : decode cL_law 554 = .ok (.iload 21, 2) := by decide +kernel
theorem dL_law_556 : decode cL_law 556 = .ok (.invokestatic 68, 3) := by decide +kernel
theorem dL_law_559 : decode cL_law 559 = .ok (.iconst 2, 1) := by decide +kernel
theorem dL_law_560 : decode cL_law 560 = .ok (.if_icmp .eq 15, 3) := by decide +kernel
theorem dL_law_563 : decode cL_law 563 = .ok (.aload_n 1, 1) := by decide +kernel
theorem dL_law_564 : decode cL_law 564 = .ok (.lload 18, 2) := by decide +kernel
theorem dL_law_566 : decode cL_law 566 = .ok (.iload 21, 2) := by decide +kernel
theorem dL_law_568 : decode cL_law 568 = .ok (.invokestatic 68, 3) := by decide +kernel
theorem dL_law_571 : decode cL_law 571 = .ok (.iconst 1, 1) := by decide +kernel
theorem dL_law_572 : decode cL_law 572 = .ok (.if_icmp .ne 7, 3) := by decide +kernel
theorem dL_law_575 : decode cL_law 575 = .ok (.iconst 1, 1) := by decide +kernel
theorem dL_law_576 : decode cL_law 576 = .ok (.goto 4, 3) := by decide +kernel
theorem dL_law_579 : decode cL_law 579 = .ok (.iconst 0, 1) := by decide +kernel
theorem dL_law_580 : decode cL_law 580 = .ok (.iand, 1) := by decide +kernel
theorem dL_law_581 : decode cL_law 581 = .ok (.istore_n 2, 1) := by decide +kernel
theorem dL_law_582 : decode cL_law 582 = .ok (.iload_n 2, 1) := by decide +kernel
theorem dL_law_583 : decode cL_law 583 = .ok (.aload_n 1, 1) := by decide +kernel
theorem dL_law_584 : decode cL_law 584 = .ok (.lload 5, 2) := by decide +kernel
theorem dL_law_586 : decode cL_law 586 = .ok (.bipush 31, 2) := by decide +kernel
theorem dL_law_588 : decode cL_law 588 = .ok (.invokestatic 65, 3) := by decide +kernel
theorem dL_law_591 : decode cL_law 591 = .ok (.ldc 26, 2) := by decide +kernel
theorem dL_law_593 : decode cL_law 593 = .ok (.if_icmp .ne 20, 3) := by decide +kernel
theorem dL_law_596 : decode cL_law 596 = .ok (.aload_n 1, 1) := by decide +kernel
theorem dL_law_597 : decode cL_law 597 = .ok (.lload 5, 2) := by decide +kernel
theorem dL_law_599 : decode cL_law 599 = .ok (.bipush 31, 2) := by decide +kernel
theorem dL_law_601 : decode cL_law 601 = .ok (.invokestatic 68, 3) := by decide +kernel
theorem dL_law_604 : decode cL_law 604 = .ok (.ldc 26, 2) := by decide +kernel
theorem dL_law_606 : decode cL_law 606 = .ok (.if_icmp .ne 7, 3) := by decide +kernel
theorem dL_law_609 : decode cL_law 609 = .ok (.iconst 1, 1) := by decide +kernel
theorem dL_law_610 : decode cL_law 610 = .ok (.goto 4, 3) := by decide +kernel
theorem dL_law_613 : decode cL_law 613 = .ok (.iconst 0, 1) := by decide +kernel
theorem dL_law_614 : decode cL_law 614 = .ok (.iand, 1) := by decide +kernel
theorem dL_law_615 : decode cL_law 615 = .ok (.istore_n 2, 1) := by decide +kernel
theorem dL_law_616 : decode cL_law 616 = .ok (.aload_n 0, 1) := by decide +kernel
theorem dL_law_617 : decode cL_law 617 = .ok (.bipush 80, 2) := by decide +kernel
theorem dL_law_619 : decode cL_law 619 = .ok (.iload_n 3, 1) := by decide +kernel
theorem dL_law_620 : decode cL_law 620 = .ok (.iadd, 1) := by decide +kernel
theorem dL_law_621 : decode cL_law 621 = .ok (.sipush 256, 3) := by decide +kernel
theorem dL_law_624 : decode cL_law 624 = .ok (.invokestatic 70, 3) := by decide +kernel
theorem dL_law_627 : decode cL_law 627 = .ok (.istore 18, 2) := by decide +kernel
theorem dL_law_629 : decode cL_law 629 = .ok (.aload_n 0, 1) := by decide +kernel
theorem dL_law_630 : decode cL_law 630 = .ok (.bipush 90, 2) := by decide +kernel
theorem dL_law_632 : decode cL_law 632 = .ok (.iload_n 3, 1) := by decide +kernel
theorem dL_law_633 : decode cL_law 633 = .ok (.iadd, 1) := by decide +kernel
theorem dL_law_634 : decode cL_law 634 = .ok (.iconst 2, 1) := by decide +kernel
theorem dL_law_635 : decode cL_law 635 = .ok (.invokestatic 70, 3) := by decide +kernel
theorem dL_law_638 : decode cL_law 638 = .ok (.istore 19, 2) := by decide +kernel
theorem dL_law_640 : decode cL_law 640 = .ok (.iconst 0, 1) := by decide +kernel
theorem dL_law_641 : decode cL_law 641 = .ok (.istore 20, 2) := by decide +kernel
theorem dL_law_643 : decode cL_law 643 = .ok (.iload 19, 2) := by decide +kernel
theorem dL_law_645 : decode cL_law 645 = .ok (.istore 21, 2) := by decide +kernel
theorem dL_law_647 : decode cL_law 647 = .ok (.bipush 7, 2) := by decide +kernel
theorem dL_law_649 : decode cL_law 649 = .ok (.istore 22, 2) := by decide +kernel
theorem dL_law_651 : decode cL_law 651 = .ok (.iload 22, 2) := by decide +kernel
theorem dL_law_653 : decode cL_law 653 = .ok (.ifCond .lt 51, 3) := by decide +kernel
theorem dL_law_656 : decode cL_law 656 = .ok (.iload 18, 2) := by decide +kernel
theorem dL_law_658 : decode cL_law 658 = .ok (.iload 22, 2) := by decide +kernel
theorem dL_law_660 : decode cL_law 660 = .ok (.ishr, 1) := by decide +kernel
theorem dL_law_661 : decode cL_law 661 = .ok (.iconst 1, 1) := by decide +kernel
theorem dL_law_662 : decode cL_law 662 = .ok (.iand, 1) := by decide +kernel
theorem dL_law_663 : decode cL_law 663 = .ok (.istore 23, 2) := by decide +kernel
theorem dL_law_665 : decode cL_law 665 = .ok (.iconst 2, 1) := by decide +kernel
theorem dL_law_666 : decode cL_law 666 = .ok (.iload 20, 2) := by decide +kernel
theorem dL_law_668 : decode cL_law 668 = .ok (.imul, 1) := by decide +kernel
theorem dL_law_669 : decode cL_law 669 = .ok (.iload 23, 2) := by decide +kernel
theorem dL_law_671 : decode cL_law 671 = .ok (.iload 21, 2) := by decide +kernel
theorem dL_law_673 : decode cL_law 673 = .ok (.iadd, 1) := by decide +kernel
theorem dL_law_674 : decode cL_law 674 = .ok (.ifCond .ne 7, 3) := by decide +kernel
theorem dL_law_677 : decode cL_law 677 = .ok (.iconst 1, 1) := by decide +kernel
theorem dL_law_678 : decode cL_law 678 = .ok (.goto 4, 3) := by decide +kernel
theorem dL_law_681 : decode cL_law 681 = .ok (.iconst 0, 1) := by decide +kernel
theorem dL_law_682 : decode cL_law 682 = .ok (.iadd, 1) := by decide +kernel
theorem dL_law_683 : decode cL_law 683 = .ok (.istore 20, 2) := by decide +kernel
theorem dL_law_685 : decode cL_law 685 = .ok (.iconst 2, 1) := by decide +kernel
theorem dL_law_686 : decode cL_law 686 = .ok (.iload 20, 2) := by decide +kernel
theorem dL_law_688 : decode cL_law 688 = .ok (.imul, 1) := by decide +kernel
theorem dL_law_689 : decode cL_law 689 = .ok (.iload 23, 2) := by decide +kernel
theorem dL_law_691 : decode cL_law 691 = .ok (.iadd, 1) := by decide +kernel
theorem dL_law_692 : decode cL_law 692 = .ok (.istore 20, 2) := by decide +kernel
theorem dL_law_694 : decode cL_law 694 = .ok (.iload 23, 2) := by decide +kernel
theorem dL_law_696 : decode cL_law 696 = .ok (.istore 21, 2) := by decide +kernel
theorem dL_law_698 : decode cL_law 698 = .ok (.iinc 22 (-1), 3) := by decide +kernel
theorem dL_law_701 : decode cL_law 701 = .ok (.goto (-50), 3) := by decide +kernel
theorem dL_law_704 : decode cL_law 704 = .ok (.iload_n 2, 1) := by decide +kernel
theorem dL_law_705 : decode cL_law 705 = .ok (.aload_n 1, 1) := by decide +kernel
theorem dL_law_706 : decode cL_law 706 = .ok (.iload 18, 2) := by decide +kernel
theorem dL_law_708 : decode cL_law 708 = .ok (.iload 19, 2) := by decide +kernel
theorem dL_law_710 : decode cL_law 710 = .ok (.invokestatic 82, 3) := by decide +kernel
theorem dL_law_713 : decode cL_law 713 = .ok (.iload 20, 2) := by decide +kernel
theorem dL_law_715 : decode cL_law 715 = .ok (.if_icmp .ne 48, 3) := by decide +kernel
theorem dL_law_718 : decode cL_law 718 = .ok (.aload_n 1, 1) := by decide +kernel
theorem dL_law_719 : decode cL_law 719 = .ok (.iload 20, 2) := by decide +kernel
theorem dL_law_721 : decode cL_law 721 = .ok (.iload 19, 2) := by decide +kernel
theorem dL_law_723 : decode cL_law 723 = .ok (.invokestatic 85, 3) := by decide +kernel
theorem dL_law_726 : decode cL_law 726 = .ok (.iload 18, 2) := by decide +kernel
theorem dL_law_728 : decode cL_law 728 = .ok (.if_icmp .ne 35, 3) := by decide +kernel
theorem dL_law_731 : decode cL_law 731 = .ok (.aload_n 1, 1) := by decide +kernel
theorem dL_law_732 : decode cL_law 732 = .ok (.iload 20, 2) := by decide +kernel
theorem dL_law_734 : decode cL_law 734 = .ok (.iconst 2, 1) := by decide +kernel
theorem dL_law_735 : decode cL_law 735 = .ok (.iconst 2, 1) := by decide +kernel
theorem dL_law_736 : decode cL_law 736 = .ok (.aload_n 0, 1) := by decide +kernel
theorem dL_law_737 : decode cL_law 737 = .ok (.bipush 100, 2) := by decide +kernel
theorem dL_law_739 : decode cL_law 739 = .ok (.iload_n 3, 1) := by decide +kernel
theorem dL_law_740 : decode cL_law 740 = .ok (.iadd, 1) := by decide +kernel
theorem dL_law_741 : decode cL_law 741 = .ok (.bipush 8, 2) := by decide +kernel
theorem dL_law_743 : decode cL_law 743 = .ok (.invokestatic 70, 3) := by decide +kernel
theorem dL_law_746 : decode cL_law 746 = .ok (.imul, 1) := by decide +kernel
theorem dL_law_747 : decode cL_law 747 = .ok (.ishl, 1) := by decide +kernel
theorem dL_law_748 : decode cL_law 748 = .ok (.ixor, 1) := by decide +kernel
theorem dL_law_749 : decode cL_law 749 = .ok (.iload 19, 2) := by decide +kernel
theorem dL_law_751 : decode cL_law 751 = .ok (.invokestatic 85, 3) := by decide +kernel
theorem dL_law_754 : decode cL_law 754 = .ok (.ldc 26, 2) := by decide +kernel
theorem dL_law_756 : decode cL_law 756 = .ok (.if_icmp .ne 7, 3) := by decide +kernel
theorem dL_law_759 : decode cL_law 759 = .ok (.iconst 1, 1) := by decide +kernel
theorem dL_law_760 : decode cL_law 760 = .ok (.goto 4, 3) := by decide +kernel
theorem dL_law_763 : decode cL_law 763 = .ok (.iconst 0, 1) := by decide +kernel
theorem dL_law_764 : decode cL_law 764 = .ok (.iand, 1) := by decide +kernel
theorem dL_law_765 : decode cL_law 765 = .ok (.istore_n 2, 1) := by decide +kernel
theorem dL_law_766 : decode cL_law 766 = .ok (.iinc 3 1, 3) := by decide +kernel
theorem dL_law_769 : decode cL_law 769 = .ok (.goto (-695), 3) := by decide +kernel
theorem dL_law_772 : decode cL_law 772 = .ok (.iload_n 2, 1) := by decide +kernel
theorem dL_law_773 : decode cL_law 773 = .ok (.aload_n 1, 1) := by decide +kernel
theorem dL_law_774 : decode cL_law 774 = .ok (.sipush 256, 3) := by decide +kernel
theorem dL_law_777 : decode cL_law 777 = .ok (.iconst 0, 1) := by decide +kernel
theorem dL_law_778 : decode cL_law 778 = .ok (.invokestatic 82, 3) := by decide +kernel
theorem dL_law_781 : decode cL_law 781 = .ok (.ldc 23, 2) := by decide +kernel
theorem dL_law_783 : decode cL_law 783 = .ok (.if_icmp .ne 48, 3) := by decide +kernel
theorem dL_law_786 : decode cL_law 786 = .ok (.aload_n 1, 1) := by decide +kernel
theorem dL_law_787 : decode cL_law 787 = .ok (.iconst 0, 1) := by decide +kernel
theorem dL_law_788 : decode cL_law 788 = .ok (.iconst 2, 1) := by decide +kernel
theorem dL_law_789 : decode cL_law 789 = .ok (.invokestatic 82, 3) := by decide +kernel
theorem dL_law_792 : decode cL_law 792 = .ok (.ldc 23, 2) := by decide +kernel
theorem dL_law_794 : decode cL_law 794 = .ok (.if_icmp .ne 37, 3) := by decide +kernel
theorem dL_law_797 : decode cL_law 797 = .ok (.aload_n 1, 1) := by decide +kernel
theorem dL_law_798 : decode cL_law 798 = .ok (.ldc 59, 2) := by decide +kernel
theorem dL_law_800 : decode cL_law 800 = .ok (.iconst 0, 1) := by decide +kernel
theorem dL_law_801 : decode cL_law 801 = .ok (.invokestatic 85, 3) := by decide +kernel
theorem dL_law_804 : decode cL_law 804 = .ok (.ldc 23, 2) := by decide +kernel
theorem dL_law_806 : decode cL_law 806 = .ok (.if_icmp .ne 25, 3) := by decide +kernel
theorem dL_law_809 : decode cL_law 809 = .ok (.aload_n 1, 1) := by decide +kernel
theorem dL_law_810 : decode cL_law 810 = .ok (.invokevirtual 87, 3) := by decide +kernel
theorem dL_law_813 : decode cL_law 813 = .ok (.ifCond .ne 18, 3) := by decide +kernel
theorem dL_law_816 : decode cL_law 816 = .ok (.aload_n 1, 1) := by decide +kernel
end
section
theorem dL_law_817 : decode cL_law 817 = .ok (.bipush 41, 2) := by decide +kernel
theorem dL_law_819 : decode cL_law 819 = .ok (.invokestatic 91, 3) := by decide +kernel
theorem dL_law_822 : decode cL_law 822 = .ok (.ldc 23, 2) := by decide +kernel
theorem dL_law_824 : decode cL_law 824 = .ok (.if_icmp .ne 7, 3) := by decide +kernel
theorem dL_law_827 : decode cL_law 827 = .ok (.iconst 1, 1) := by decide +kernel
theorem dL_law_828 : decode cL_law 828 = .ok (.goto 4, 3) := by decide +kernel
theorem dL_law_831 : decode cL_law 831 = .ok (.iconst 0, 1) := by decide +kernel
theorem dL_law_832 : decode cL_law 832 = .ok (.iand, 1) := by decide +kernel
theorem dL_law_833 : decode cL_law 833 = .ok (.istore_n 2, 1) := by decide +kernel
theorem dL_law_834 : decode cL_law 834 = .ok (.aload_n 0, 1) := by decide +kernel
theorem dL_law_835 : decode cL_law 835 = .ok (.bipush 110, 2) := by decide +kernel
theorem dL_law_837 : decode cL_law 837 = .ok (.bipush 9, 2) := by decide +kernel
theorem dL_law_839 : decode cL_law 839 = .ok (.invokestatic 70, 3) := by decide +kernel
theorem dL_law_842 : decode cL_law 842 = .ok (.istore_n 3, 1) := by decide +kernel
theorem dL_law_843 : decode cL_law 843 = .ok (.iload_n 3, 1) := by decide +kernel
theorem dL_law_844 : decode cL_law 844 = .ok (.newarray .int, 2) := by decide +kernel
theorem dL_law_846 : decode cL_law 846 = .ok (.astore 4, 2) := by decide +kernel
theorem dL_law_848 : decode cL_law 848 = .ok (.iconst 0, 1) := by decide +kernel
theorem dL_law_849 : decode cL_law 849 = .ok (.istore 5, 2) := by decide +kernel
theorem dL_law_851 : decode cL_law 851 = .ok (.iload 5, 2) := by decide +kernel
theorem dL_law_853 : decode cL_law 853 = .ok (.iload_n 3, 1) := by decide +kernel
theorem dL_law_854 : decode cL_law 854 = .ok (.if_icmp .ge 52, 3) := by decide +kernel
theorem dL_law_857 : decode cL_law 857 = .ok (.aload 4, 2) := by decide +kernel
theorem dL_law_859 : decode cL_law 859 = .ok (.iload 5, 2) := by decide +kernel
theorem dL_law_861 : decode cL_law 861 = .ok (.aload_n 0, 1) := by decide +kernel
theorem dL_law_862 : decode cL_law 862 = .ok (.bipush 120, 2) := by decide +kernel
theorem dL_law_864 : decode cL_law 864 = .ok (.iload 5, 2) := by decide +kernel
theorem dL_law_866 : decode cL_law 866 = .ok (.iadd, 1) := by decide +kernel
theorem dL_law_867 : decode cL_law 867 = .ok (.bipush 81, 2) := by decide +kernel
theorem dL_law_869 : decode cL_law 869 = .ok (.invokestatic 70, 3) := by decide +kernel
theorem dL_law_872 : decode cL_law 872 = .ok (.bipush 40, 2) := by decide +kernel
theorem dL_law_874 : decode cL_law 874 = .ok (.isub, 1) := by decide +kernel
theorem dL_law_875 : decode cL_law 875 = .ok (.iastore, 1) := by decide +kernel
theorem dL_law_876 : decode cL_law 876 = .ok (.iload_n 2, 1) := by decide +kernel
theorem dL_law_877 : decode cL_law 877 = .ok (.aload_n 1, 1) := by decide +kernel
theorem dL_law_878 : decode cL_law 878 = .ok (.aload 4, 2) := by decide +kernel
theorem dL_law_880 : decode cL_law 880 = .ok (.iload 5, 2) := by decide +kernel
theorem dL_law_882 : decode cL_law 882 = .ok (.iaload, 1) := by decide +kernel
theorem dL_law_883 : decode cL_law 883 = .ok (.invokestatic 91, 3) := by decide +kernel
theorem dL_law_886 : decode cL_law 886 = .ok (.iload 5, 2) := by decide +kernel
theorem dL_law_888 : decode cL_law 888 = .ok (.iconst 1, 1) := by decide +kernel
theorem dL_law_889 : decode cL_law 889 = .ok (.iadd, 1) := by decide +kernel
theorem dL_law_890 : decode cL_law 890 = .ok (.if_icmp .ne 7, 3) := by decide +kernel
theorem dL_law_893 : decode cL_law 893 = .ok (.iconst 1, 1) := by decide +kernel
theorem dL_law_894 : decode cL_law 894 = .ok (.goto 4, 3) := by decide +kernel
theorem dL_law_897 : decode cL_law 897 = .ok (.iconst 0, 1) := by decide +kernel
theorem dL_law_898 : decode cL_law 898 = .ok (.iand, 1) := by decide +kernel
theorem dL_law_899 : decode cL_law 899 = .ok (.istore_n 2, 1) := by decide +kernel
theorem dL_law_900 : decode cL_law 900 = .ok (.iinc 5 1, 3) := by decide +kernel
theorem dL_law_903 : decode cL_law 903 = .ok (.goto (-52), 3) := by decide +kernel
theorem dL_law_906 : decode cL_law 906 = .ok (.iconst 0, 1) := by decide +kernel
theorem dL_law_907 : decode cL_law 907 = .ok (.istore 5, 2) := by decide +kernel
theorem dL_law_909 : decode cL_law 909 = .ok (.ldc 49, 2) := by decide +kernel
theorem dL_law_911 : decode cL_law 911 = .ok (.istore 6, 2) := by decide +kernel
theorem dL_law_913 : decode cL_law 913 = .ok (.iconst 1, 1) := by decide +kernel
theorem dL_law_914 : decode cL_law 914 = .ok (.iload_n 3, 1) := by decide +kernel
theorem dL_law_915 : decode cL_law 915 = .ok (.ishl, 1) := by decide +kernel
theorem dL_law_916 : decode cL_law 916 = .ok (.iconst 1, 1) := by decide +kernel
theorem dL_law_917 : decode cL_law 917 = .ok (.isub, 1) := by decide +kernel
theorem dL_law_918 : decode cL_law 918 = .ok (.istore 7, 2) := by decide +kernel
theorem dL_law_920 : decode cL_law 920 = .ok (.iload 7, 2) := by decide +kernel
theorem dL_law_922 : decode cL_law 922 = .ok (.ifCond .lt 135, 3) := by decide +kernel
theorem dL_law_925 : decode cL_law 925 = .ok (.iconst 0, 1) := by decide +kernel
theorem dL_law_926 : decode cL_law 926 = .ok (.istore 8, 2) := by decide +kernel
theorem dL_law_928 : decode cL_law 928 = .ok (.iconst 0, 1) := by decide +kernel
theorem dL_law_929 : decode cL_law 929 = .ok (.istore 9, 2) := by decide +kernel
theorem dL_law_931 : decode cL_law 931 = .ok (.iload 9, 2) := by decide +kernel
theorem dL_law_933 : decode cL_law 933 = .ok (.iload_n 3, 1) := by decide +kernel
theorem dL_law_934 : decode cL_law 934 = .ok (.if_icmp .ge 85, 3) := by decide +kernel
theorem dL_law_937 : decode cL_law 937 = .ok (.iload 7, 2) := by decide +kernel
theorem dL_law_939 : decode cL_law 939 = .ok (.iload_n 3, 1) := by decide +kernel
theorem dL_law_940 : decode cL_law 940 = .ok (.iconst 1, 1) := by decide +kernel
theorem dL_law_941 : decode cL_law 941 = .ok (.isub, 1) := by decide +kernel
theorem dL_law_942 : decode cL_law 942 = .ok (.iload 9, 2) := by decide +kernel
theorem dL_law_944 : decode cL_law 944 = .ok (.isub, 1) := by decide +kernel
theorem dL_law_945 : decode cL_law 945 = .ok (.ishr, 1) := by decide +kernel
theorem dL_law_946 : decode cL_law 946 = .ok (.iconst 1, 1) := by decide +kernel
theorem dL_law_947 : decode cL_law 947 = .ok (.iand, 1) := by decide +kernel
theorem dL_law_948 : decode cL_law 948 = .ok (.istore 10, 2) := by decide +kernel
theorem dL_law_950 : decode cL_law 950 = .ok (.iload 9, 2) := by decide +kernel
theorem dL_law_952 : decode cL_law 952 = .ok (.iconst 2, 1) := by decide +kernel
theorem dL_law_953 : decode cL_law 953 = .ok (.if_icmp .ge 7, 3) := by decide +kernel
theorem dL_law_956 : decode cL_law 956 = .ok (.iconst 0, 1) := by decide +kernel
theorem dL_law_957 : decode cL_law 957 = .ok (.goto 14, 3) := by decide +kernel
theorem dL_law_960 : decode cL_law 960 = .ok (.iload 7, 2) := by decide +kernel
theorem dL_law_962 : decode cL_law 962 = .ok (.iload_n 3, 1) := by decide +kernel
theorem dL_law_963 : decode cL_law 963 = .ok (.iconst 1, 1) := by decide +kernel
theorem dL_law_964 : decode cL_law 964 = .ok (.iadd, 1) := by decide +kernel
theorem dL_law_965 : decode cL_law 965 = .ok (.iload 9, 2) := by decide +kernel
theorem dL_law_967 : decode cL_law 967 = .ok (.isub, 1) := by decide +kernel
theorem dL_law_968 : decode cL_law 968 = .ok (.ishr, 1) := by decide +kernel
theorem dL_law_969 : decode cL_law 969 = .ok (.iconst 1, 1) := by decide +kernel
theorem dL_law_970 : decode cL_law 970 = .ok (.iand, 1) := by decide +kernel
theorem dL_law_971 : decode cL_law 971 = .ok (.istore 11, 2) := by decide +kernel
theorem dL_law_973 : decode cL_law 973 = .ok (.iload 8, 2) := by decide +kernel
theorem dL_law_975 : decode cL_law 975 = .ok (.aload 4, 2) := by decide +kernel
theorem dL_law_977 : decode cL_law 977 = .ok (.iload 9, 2) := by decide +kernel
theorem dL_law_979 : decode cL_law 979 = .ok (.iaload, 1) := by decide +kernel
theorem dL_law_980 : decode cL_law 980 = .ok (.bipush 10, 2) := by decide +kernel
theorem dL_law_982 : decode cL_law 982 = .ok (.iload 10, 2) := by decide +kernel
theorem dL_law_984 : decode cL_law 984 = .ok (.imul, 1) := by decide +kernel
theorem dL_law_985 : decode cL_law 985 = .ok (.isub, 1) := by decide +kernel
theorem dL_law_986 : decode cL_law 986 = .ok (.bipush 10, 2) := by decide +kernel
theorem dL_law_988 : decode cL_law 988 = .ok (.iload 11, 2) := by decide +kernel
theorem dL_law_990 : decode cL_law 990 = .ok (.imul, 1) := by decide +kernel
theorem dL_law_991 : decode cL_law 991 = .ok (.iadd, 1) := by decide +kernel
theorem dL_law_992 : decode cL_law 992 = .ok (.aload 4, 2) := by decide +kernel
theorem dL_law_994 : decode cL_law 994 = .ok (.iload 9, 2) := by decide +kernel
theorem dL_law_996 : decode cL_law 996 = .ok (.iaload, 1) := by decide +kernel
theorem dL_law_997 : decode cL_law 997 = .ok (.bipush 10, 2) := by decide +kernel
theorem dL_law_999 : decode cL_law 999 = .ok (.iload 10, 2) := by decide +kernel
theorem dL_law_1001 : decode cL_law 1001 = .ok (.imul, 1) := by decide +kernel
theorem dL_law_1002 : decode cL_law 1002 = .ok (.isub, 1) := by decide +kernel
theorem dL_law_1003 : decode cL_law 1003 = .ok (.bipush 10, 2) := by decide +kernel
theorem dL_law_1005 : decode cL_law 1005 = .ok (.iload 11, 2) := by decide +kernel
theorem dL_law_1007 : decode cL_law 1007 = .ok (.imul, 1) := by decide +kernel
theorem dL_law_1008 : decode cL_law 1008 = .ok (.iadd, 1) := by decide +kernel
theorem dL_law_1009 : decode cL_law 1009 = .ok (.imul, 1) := by decide +kernel
theorem dL_law_1010 : decode cL_law 1010 = .ok (.iadd, 1) := by decide +kernel
theorem dL_law_1011 : decode cL_law 1011 = .ok (.istore 8, 2) := by decide +kernel
theorem dL_law_1013 : decode cL_law 1013 = .ok (.iinc 9 1, 3) := by decide +kernel
theorem dL_law_1016 : decode cL_law 1016 = .ok (.goto (-85), 3) := by decide +kernel
theorem dL_law_1019 : decode cL_law 1019 = .ok (.iload 8, 2) := by decide +kernel
theorem dL_law_1021 : decode cL_law 1021 = .ok (.iload 6, 2) := by decide +kernel
theorem dL_law_1023 : decode cL_law 1023 = .ok (.if_icmp .gt 8, 3) := by decide +kernel
theorem dL_law_1026 : decode cL_law 1026 = .ok (.iload 7, 2) := by decide +kernel
theorem dL_law_1028 : decode cL_law 1028 = .ok (.goto 5, 3) := by decide +kernel
theorem dL_law_1031 : decode cL_law 1031 = .ok (.iload 5, 2) := by decide +kernel
theorem dL_law_1033 : decode cL_law 1033 = .ok (.istore 5, 2) := by decide +kernel
theorem dL_law_1035 : decode cL_law 1035 = .ok (.iload 8, 2) := by decide +kernel
theorem dL_law_1037 : decode cL_law 1037 = .ok (.iload 6, 2) := by decide +kernel
theorem dL_law_1039 : decode cL_law 1039 = .ok (.if_icmp .gt 8, 3) := by decide +kernel
theorem dL_law_1042 : decode cL_law 1042 = .ok (.iload 8, 2) := by decide +kernel
theorem dL_law_1044 : decode cL_law 1044 = .ok (.goto 5, 3) := by decide +kernel
theorem dL_law_1047 : decode cL_law 1047 = .ok (.iload 6, 2) := by decide +kernel
theorem dL_law_1049 : decode cL_law 1049 = .ok (.istore 6, 2) := by decide +kernel
theorem dL_law_1051 : decode cL_law 1051 = .ok (.iinc 7 (-1), 3) := by decide +kernel
theorem dL_law_1054 : decode cL_law 1054 = .ok (.goto (-134), 3) := by decide +kernel
theorem dL_law_1057 : decode cL_law 1057 = .ok (.iload_n 2, 1) := by decide +kernel
theorem dL_law_1058 : decode cL_law 1058 = .ok (.ifCond .eq 30, 3) := by decide +kernel
theorem dL_law_1061 : decode cL_law 1061 = .ok (.aload_n 1, 1) := by decide +kernel
theorem dL_law_1062 : decode cL_law 1062 = .ok (.invokevirtual 87, 3) := by decide +kernel
theorem dL_law_1065 : decode cL_law 1065 = .ok (.iload 5, 2) := by decide +kernel
theorem dL_law_1067 : decode cL_law 1067 = .ok (.if_icmp .ne 21, 3) := by decide +kernel
theorem dL_law_1070 : decode cL_law 1070 = .ok (.aload_n 1, 1) := by decide +kernel
theorem dL_law_1071 : decode cL_law 1071 = .ok (.invokevirtual 87, 3) := by decide +kernel
theorem dL_law_1074 : decode cL_law 1074 = .ok (.ifCond .ne 14, 3) := by decide +kernel
theorem dL_law_1077 : decode cL_law 1077 = .ok (.aload_n 1, 1) := by decide +kernel
theorem dL_law_1078 : decode cL_law 1078 = .ok (.invokevirtual 96, 3) := by decide +kernel
theorem dL_law_1081 : decode cL_law 1081 = .ok (.ifCond .eq 7, 3) := by decide +kernel
theorem dL_law_1084 : decode cL_law 1084 = .ok (.iconst 1, 1) := by decide +kernel
theorem dL_law_1085 : decode cL_law 1085 = .ok (.goto 4, 3) := by decide +kernel
theorem dL_law_1088 : decode cL_law 1088 = .ok (.iconst 0, 1) := by decide +kernel
theorem dL_law_1089 : decode cL_law 1089 = .ok (.ireturn, 1) := by decide +kernel
end
section
/-! What the pure methods answer, as functions of Int32 and Int64, in the machine's own operations. A loop is a function of the steps that are left (and the counter). -/
def fNib (w : Int64) (pl : Int32) : Int32 := (((w.toUInt64 >>> ((4 * pl).toInt64.toUInt64 &&& Int64.toUInt64 63)).toInt64).toInt32) &&& 15
def fTurn (w : Int64) (pl b : Int32) : Int64 := w ^^^ (b.toInt64 <<< ((4 * pl).toInt64 &&& 63))
def fVal (w : Int64) : Int32 := (w &&& 65535).toInt32
def fTi1 (a b : Int32) : Nat → Nat → Int32 → Int32
  | 0, _, q => q
  | n+1, k, q => fTi1 a b n (k+1) (if (b >>> (nI k &&& 31)) &&& 1 = 1 then q ^^^ (a <<< (nI k &&& 31)) else q)
def fTi2 : Nat → Int32 → Int32
  | 0, q => q
  | n+1, q => fTi2 n (if (q >>> (nI (n + 1 + 3) &&& 31)) &&& 1 = 1 then q ^^^ (19 <<< ((nI (n + 1 + 3) - 4) &&& 31)) else q)
def fTimes (a b : Int32) : Int32 := fTi2 3 (fTi1 a b 4 0 0)
def fSuI (w : Int64) (j : Int32) : Nat → Int32 → Int32
  | 0, q => q
  | n+1, q => fSuI w j n (fTimes q (1 <<< (j &&& 31)) ^^^ fNib w (nI n))
def fSuO (w : Int64) : Nat → Nat → Int32 → Int32
  | 0, _, q => q
  | n+1, k, q => fSuO w n (k+1) (q ||| (fSuI w (nI k) 8 0 <<< ((4 * nI k) &&& 31)))
def fSums (w : Int64) : Int32 := fSuO w 4 0 0
def fLen : Nat → Int32
  | 0 => 4
  | c+1 => fLen c + (-1)
def fSwI (left pw len : Int32) : Nat → Nat → Int32 → Int32
  | 0, _, q => q
  | n+1, k, q => if nI k < len then fSwI left pw len n (k+1) (q ||| ((fNib left.toInt64 (nI k + 1) ^^^ fTimes (fNib left.toInt64 (nI k)) pw) <<< ((4 * nI k) &&& 31))) else q
def fSwO (places : Int32) : Nat → Nat → Int32 → Nat → Int32
  | 0, _, left, _ => left
  | n+1, k, left, c => if (places >>> (nI k &&& 31)) &&& 1 = 1 then fSwO places n (k+1) (fSwI left (fNib 3160638497 (nI k)) (fLen (c+1)) 4 0 0) (c+1) else fSwO places n (k+1) left c
def fSw (sums places : Int32) : Int32 := fSwO places 8 0 sums 0
def fQu (pr fa : Int32) : Nat → Nat → Int32
  | 0, _ => 0
  | n+1, k => if fTimes (nI k) fa = pr then nI k else fQu pr fa n (k+1)
def fQuot (pr fa : Int32) : Int32 := fQu pr fa 16 0
def fOth (places : Int32) (k : Nat) : Int32 := places &&& ((1 <<< (nI k &&& 31)) ^^^ (-1))
def fFi (sums places : Int32) : Nat → Nat → Int64 → Int64
  | 0, _, w => w
  | n+1, k, w => fFi sums places n (k+1) (if (places >>> (nI k &&& 31)) &&& 1 = 1 then fTurn w (nI k) (fQuot (fSw sums (fOth places k) &&& 15) (fSw (fSums (1 <<< ((4 * nI k).toInt64 &&& 63))) (fOth places k) &&& 15)) else w)
def fFill (w : Int64) (sums places : Int32) : Int64 := fFi sums places 8 0 w
def fOf (v : Int32) : Int64 := fFill v.toInt64 (fSums v.toInt64) 240
def fDi (a b : Int64) : Nat → Nat → Int32 → Int32
  | 0, _, q => q
  | n+1, k, q => fDi a b n (k+1) (if fNib a (nI k) = fNib b (nI k) then q else q + 1)
def fDiff (a b : Int64) : Int32 := fDi a b 8 0 0
def fBit (x : Int32) : Int32 :=
  let a := x - ((x.toUInt32 >>> ((1 : Int32).toUInt32 &&& Int32.toUInt32 31)).toInt32 &&& 1431655765)
  let b := (a &&& 858993459) + ((a.toUInt32 >>> ((2 : Int32).toUInt32 &&& Int32.toUInt32 31)).toInt32 &&& 858993459)
  let c := (b + (b.toUInt32 >>> ((4 : Int32).toUInt32 &&& Int32.toUInt32 31)).toInt32) &&& 252645135
  let d := c + (c.toUInt32 >>> ((8 : Int32).toUInt32 &&& Int32.toUInt32 31)).toInt32
  let e := d + (d.toUInt32 >>> ((16 : Int32).toUInt32 &&& Int32.toUInt32 31)).toInt32
  e &&& 63
def fRe (w : Int64) (sums weak wk : Int32) : Nat → Nat → Int64
  | 0, _ => -1
  | n+1, k => if 2 * fBit (nI k) + wk ≤ 4 ∧ nI k &&& weak = 0 ∧ fSw sums (nI k ||| weak) = 0 then fFill w sums (nI k ||| weak) else fRe w sums weak wk n (k+1)
def fRep (w : Int64) (weak : Int32) : Int64 := fRe w (fSums w) weak (fBit weak) 256 0
def fOb (d : Int32) : Nat → Int32 → Int32 → Int32
  | 0, q, _ => q
  | n+1, q, la => fOb d n (((q <<< (2 &&& 31)) ||| ((if la = 0 ∧ (d >>> (nI n &&& 31)) &&& 1 = 0 then (1 : Int32) else 0) <<< (1 &&& 31))) ||| ((d >>> (nI n &&& 31)) &&& 1)) ((d >>> (nI n &&& 31)) &&& 1)
def fByte (d la : Int32) : Int32 := fOb d 8 0 la
def fDa (cl : Int32) : Nat → Int32 → Int32
  | 0, q => q
  | n+1, q => fDa cl n ((q <<< (1 &&& 31)) ||| ((cl >>> ((2 * nI n) &&& 31)) &&& 1))
def fData (cl : Int32) : Int32 := fDa cl 8 0
def fBetter (a b c d : Int64) : Int32 := if a < c ∨ (a = c ∧ b < d) then 1 else 0
/-! .. and the law's own -/
def gPr (b : Int32) : Nat → Nat → Int32 → Int32 → Int32
  | 0, _, q, _ => q
  | n+1, k, q, lf => gPr b n (k+1) (q ^^^ (((b >>> (nI k &&& 31)) &&& 1) * lf)) (if lf < 8 then 2 * lf else (2 * lf) ^^^ 19)
def gProd (a b : Int32) : Int32 := gPr b 4 0 0 a
def gNib (w : Int64) (pl : Int32) : Int32 := ((w >>> ((4 * pl).toInt64 &&& 63)) &&& 15).toInt32
def gWI (w : Int64) (root : Int32) : Nat → Nat → Int32 → Int32 → Int32
  | 0, _, q, _ => q
  | n+1, k, q, fa => gWI w root n (k+1) (q ^^^ gProd (gNib w (nI k)) fa) (gProd fa root)
def gWO (w : Int64) : Nat → Int32 → Int32 → Int32
  | 0, q, _ => q
  | n+1, q, root => gWO w n (q &&& (if gWI w root 8 0 0 1 = 0 then 1 else 0)) (gProd root 2)
def gIsW (w : Int64) : Int32 := gWO w 4 1 1
def gCe (h : Int32) : Int32 := h ^^^ (h.toUInt32 >>> ((16 : Int32).toUInt32 &&& Int32.toUInt32 31)).toInt32
def gCell (x i : Int32) : Int32 :=
  let h := 69069 * (x + 1009 * i) + 12345
  let g := (h ^^^ (h.toUInt32 >>> ((13 : Int32).toUInt32 &&& Int32.toUInt32 31)).toInt32) * 1103515245
  gCe g
end
section
/-! Pure methods: the heap stays as it is, the answer is f. pc_i: an int, pc_l: a long, pc_v: none. pW_..: the walk's goal in such a method. -/
def pc_i (l : Launch) (y : MethodName) (ws : List Cond) (rm : Room) (av : List Value) (f : Int32) : Prop := ∀ H0 : Heap, Met l y ws rm (va_Pc av (fun U => U.heap = H0)) (va_Qi (fun (r : Int32) (_ : Unit) => r = f) (fun _ t => t.heap = H0) (fun q => H0.size ≤ q)) 0 0 (fun q => H0.size ≤ q)
def pc_l (l : Launch) (y : MethodName) (ws : List Cond) (rm : Room) (av : List Value) (f : Int64) : Prop := ∀ H0 : Heap, Met l y ws rm (va_Pc av (fun U => U.heap = H0)) (va_Ql (fun (r : Int64) (_ : Unit) => r = f) (fun _ t => t.heap = H0) (fun q => H0.size ≤ q)) 0 0 (fun q => H0.size ≤ q)
def pc_v (l : Launch) (y : MethodName) (ws : List Cond) (rm : Room) (av : List Value) (_ : Unit) : Prop := ∀ H0 : Heap, Met l y ws rm (va_Pc av (fun U => U.heap = H0)) (va_Qv (fun _ : Unit => True) (fun _ t => t.heap = H0) (fun q => H0.size ≤ q)) 0 0 (fun q => H0.size ≤ q)
abbrev pW_i (p : Program) (l : Launch) (e : Env) (ws : List Cond) (rm : Room) (s : State) (m : MethodId) (args : Array Value) (below : List Frame) (meth : Method) (c : Code) (f : Int32) (locs : List Loc) (g : JFrame) : Prop :=
  W p l e (headSpec ws rm).room s m args below meth c s.heap locs 0 0 (MQ below (va_Qi (fun (r : Int32) (_ : Unit) => r = f) (fun _ t => t.heap = s.heap) (fun q => s.heap.size ≤ q)) args s 0 0 (fun q => s.heap.size ≤ q)) g
abbrev pW_l (p : Program) (l : Launch) (e : Env) (ws : List Cond) (rm : Room) (s : State) (m : MethodId) (args : Array Value) (below : List Frame) (meth : Method) (c : Code) (f : Int64) (locs : List Loc) (g : JFrame) : Prop :=
  W p l e (headSpec ws rm).room s m args below meth c s.heap locs 0 0 (MQ below (va_Ql (fun (r : Int64) (_ : Unit) => r = f) (fun _ t => t.heap = s.heap) (fun q => s.heap.size ≤ q)) args s 0 0 (fun q => s.heap.size ≤ q)) g
section PU
variable {p : Program} {l : Launch} {e : Env} {R : Room} {s : State} {m : MethodId} {args : Array Value} {below : List Frame} {meth : Method} {c : Code} {H : Heap} {locs : List Loc} {cells slots : Nat} {Q : State → Prop}
variable {y : MethodName} {bytes cc : ByteArray} {maxL nL n index : Nat} {ret : Option FieldType} {ws : List Cond} {rm : Room} {Ts : List Cond} {own C : String} {As rest : List Value} {pc : Nat} {ls : Array Slot} {st0 : List Value} {A0 : Nat → Prop} {H0 : Heap} {b : Nat}
theorem pu_calli {f : Int32} (S : CallFix p m c cc nL s args Ts own) (hM : pc_i l y ws rm As f) (cw : CallB R s args own index y bytes maxL ret ws rm 0 0 n ∧ (Cond.static y).before args s = true) (hn : As.length = n) (hsize : ls.size = nL)
    (hW : 2 * (F0 m pc ls st0).monitorRoom + (rest.map fun v => v.category).sum ≤ 8) (hdg : decode cc pc = .ok (.invokestatic index, 3)) (hf : cells + 0 ≤ R.cells ∧ slots + 0 ≤ R.slots) (hS : va_S A0 H0 H locs) (hA : ∀ q, H0.size ≤ q → A0 q) (hst : st0 = As.reverse ++ rest)
    (kk : ∀ locs1 : List Loc, va_S A0 H0 H locs1 → W p l e R s m args below meth c H locs1 cells slots Q (F0 m (pc + 3) ls (.int f :: rest))) : W p l e R s m args below meth c H locs cells slots Q (F0 m pc ls st0) := by
  refine va_calli (A1 := fun q => H.size ≤ q) (va_runS S (hM H) cw ⟨fun a U g mk q => ⟨q.1, q.2⟩, fun U hU hW => ⟨rfl, hU⟩⟩ rfl hn hsize hst hW hdg hf) hS (fun q h1 h2 => absurd h1 (Nat.not_lt.mpr h2)) (fun q h => hA q (Nat.le_trans hS.1 h)) (fun r u t H1 locs1 ht hvm hp hB hz hk hS1 => ?_)
  have e1 : H1 = H := ht.symm.trans hB
  subst e1
  have e2 : r = f := hp
  subst e2
  exact kk locs1 hS1
theorem pu_calll {f : Int64} (S : CallFix p m c cc nL s args Ts own) (hM : pc_l l y ws rm As f) (cw : CallB R s args own index y bytes maxL ret ws rm 0 0 n ∧ (Cond.static y).before args s = true) (hn : As.length = n) (hsize : ls.size = nL)
    (hW : 2 * (F0 m pc ls st0).monitorRoom + (rest.map fun v => v.category).sum ≤ 8) (hdg : decode cc pc = .ok (.invokestatic index, 3)) (hf : cells + 0 ≤ R.cells ∧ slots + 0 ≤ R.slots) (hS : va_S A0 H0 H locs) (hA : ∀ q, H0.size ≤ q → A0 q) (hst : st0 = As.reverse ++ rest)
    (kk : ∀ locs1 : List Loc, va_S A0 H0 H locs1 → W p l e R s m args below meth c H locs1 cells slots Q (F0 m (pc + 3) ls (.long f :: rest))) : W p l e R s m args below meth c H locs cells slots Q (F0 m pc ls st0) := by
  refine va_calll (A1 := fun q => H.size ≤ q) (va_runS S (hM H) cw ⟨fun a U g mk q => ⟨q.1, q.2⟩, fun U hU hW => ⟨rfl, hU⟩⟩ rfl hn hsize hst hW hdg hf) hS (fun q h1 h2 => absurd h1 (Nat.not_lt.mpr h2)) (fun q h => hA q (Nat.le_trans hS.1 h)) (fun r u t H1 locs1 ht hvm hp hB hz hk hS1 => ?_)
  have e1 : H1 = H := ht.symm.trans hB
  subst e1
  have e2 : r = f := hp
  subst e2
  exact kk locs1 hS1
theorem pu_callv {f : Unit} (S : CallFix p m c cc nL s args Ts own) (hM : pc_v l y ws rm As f) (cw : CallB R s args own index y bytes maxL ret ws rm 0 0 n ∧ (Cond.static y).before args s = true) (hn : As.length = n) (hsize : ls.size = nL)
    (hW : 2 * (F0 m pc ls st0).monitorRoom + (rest.map fun v => v.category).sum ≤ 8) (hdg : decode cc pc = .ok (.invokestatic index, 3)) (hf : cells + 0 ≤ R.cells ∧ slots + 0 ≤ R.slots) (hS : va_S A0 H0 H locs) (hA : ∀ q, H0.size ≤ q → A0 q) (hst : st0 = As.reverse ++ rest)
    (kk : ∀ locs1 : List Loc, va_S A0 H0 H locs1 → W p l e R s m args below meth c H locs1 cells slots Q (F0 m (pc + 3) ls rest)) : W p l e R s m args below meth c H locs cells slots Q (F0 m pc ls st0) := by
  refine va_callv (A1 := fun q => H.size ≤ q) (va_runS S (hM H) cw ⟨fun a U g mk q => ⟨q.1, q.2⟩, fun U hU hW => ⟨rfl, hU⟩⟩ rfl hn hsize hst hW hdg hf) hS (fun q h1 h2 => absurd h1 (Nat.not_lt.mpr h2)) (fun q h => hA q (Nat.le_trans hS.1 h)) (fun u t H1 locs1 ht hvm hp hB hz hk hS1 => ?_)
  have e1 : H1 = H := ht.symm.trans hB
  subst e1
  exact kk locs1 hS1
theorem pu_callVi {f : Int32} (S : CallFix p m c cc nL s args Ts own) (hM : pc_i l y ws rm (.ref b :: As) f) (cw : CallW R s args own C index y bytes maxL ret ws rm 0 0 n) (hrec : ∃ cellB : Cell, H[b]? = some cellB ∧ cellB.vm.isStatics = false ∧ s.vm.findClass C = some cellB.cls) (hn : As.length = n) (hsize : ls.size = nL)
    (hW : 2 * (F0 m pc ls st0).monitorRoom + (rest.map fun v => v.category).sum ≤ 8) (hdg : decode cc pc = .ok (.invokevirtual index, 3)) (hf : cells + 0 ≤ R.cells ∧ slots + 0 ≤ R.slots) (hS : va_S A0 H0 H locs) (hA : ∀ q, H0.size ≤ q → A0 q) (hst : st0 = As.reverse ++ .ref b :: rest)
    (kk : ∀ locs1 : List Loc, va_S A0 H0 H locs1 → W p l e R s m args below meth c H locs1 cells slots Q (F0 m (pc + 3) ls (.int f :: rest))) : W p l e R s m args below meth c H locs cells slots Q (F0 m pc ls st0) := by
  refine va_calli (A1 := fun q => H.size ≤ q) (va_runV S (hM H) cw ⟨fun a U g mk q => ⟨q.1, q.2⟩, hrec, fun U hU hW => ⟨rfl, hU⟩⟩ rfl hn hsize hst hW hdg hf) hS (fun q h1 h2 => absurd h1 (Nat.not_lt.mpr h2)) (fun q h => hA q (Nat.le_trans hS.1 h)) (fun r u t H1 locs1 ht hvm hp hB hz hk hS1 => ?_)
  have e1 : H1 = H := ht.symm.trans hB
  subst e1
  have e2 : r = f := hp
  subst e2
  exact kk locs1 hS1
theorem pu_callVl {f : Int64} (S : CallFix p m c cc nL s args Ts own) (hM : pc_l l y ws rm (.ref b :: As) f) (cw : CallW R s args own C index y bytes maxL ret ws rm 0 0 n) (hrec : ∃ cellB : Cell, H[b]? = some cellB ∧ cellB.vm.isStatics = false ∧ s.vm.findClass C = some cellB.cls) (hn : As.length = n) (hsize : ls.size = nL)
    (hW : 2 * (F0 m pc ls st0).monitorRoom + (rest.map fun v => v.category).sum ≤ 8) (hdg : decode cc pc = .ok (.invokevirtual index, 3)) (hf : cells + 0 ≤ R.cells ∧ slots + 0 ≤ R.slots) (hS : va_S A0 H0 H locs) (hA : ∀ q, H0.size ≤ q → A0 q) (hst : st0 = As.reverse ++ .ref b :: rest)
    (kk : ∀ locs1 : List Loc, va_S A0 H0 H locs1 → W p l e R s m args below meth c H locs1 cells slots Q (F0 m (pc + 3) ls (.long f :: rest))) : W p l e R s m args below meth c H locs cells slots Q (F0 m pc ls st0) := by
  refine va_calll (A1 := fun q => H.size ≤ q) (va_runV S (hM H) cw ⟨fun a U g mk q => ⟨q.1, q.2⟩, hrec, fun U hU hW => ⟨rfl, hU⟩⟩ rfl hn hsize hst hW hdg hf) hS (fun q h1 h2 => absurd h1 (Nat.not_lt.mpr h2)) (fun q h => hA q (Nat.le_trans hS.1 h)) (fun r u t H1 locs1 ht hvm hp hB hz hk hS1 => ?_)
  have e1 : H1 = H := ht.symm.trans hB
  subst e1
  have e2 : r = f := hp
  subst e2
  exact kk locs1 hS1
end PU
/-! counters -/
theorem fLen_le : ∀ c, c ≤ 8 → fLen c ≤ 4 := by decide +kernel
end
section
set_option maxHeartbeats 4000000 in
set_option maxRecDepth 100000 in
theorem c_X7_nibble (l : Launch) (w : Int64) (pl : Int32) : pc_i l yX7_nibble wsX7_nibble ({ frames := 0, cells := 0, slots := 0, locals := 0 } : Room) [.long w, .int pl] (fNib w pl) := by
  intro H0
  refine Met.ofW (cc := cX7_nibble) (maxL := 3) (ret := (some .int)) (by decide) rfl ?_
  intro p e s m args below meth c s₁ B hml hv
  obtain ⟨rfl, rfl⟩ := hv
  have hx := B.exec
  have hb := B.bytes
  have hr := B.returns
  have hts := atoms_spec (ws := wsX7_nibble) B.pre
  have hown : s.vm.findClass RX7 = some m.cls := findClass_of_methodNamed B.named
  have hlocks := B.notSynchronized
  have hS : va_S (fun q => s.heap.size ≤ q) s.heap s.heap [] := va_S.rf
  have hA : ∀ q : Nat, s.heap.size ≤ q → (fun q : Nat => s.heap.size ≤ q) q := fun _ h => h
  have hl := lv_entry ([.long w, .int pl]) (n := 3) (Nat.le_of_ble_eq_true rfl)
  rw [lg_entry_eq]
  generalize (lg_sl ([.long w, .int pl]) ++ List.replicate (3 - (lg_sl ([.long w, .int pl])).length) Slot.unset).toArray = ls at hl ⊢
  have hl : lv_has ls 3 [(0, .long w), (2, .int pl)] := hl
  refine lv_lload_n hx hb dX7_nibble_0 rfl (lv_at hl 0 rfl) ?_
  refine lv_iconst (v := 4) hx hb dX7_nibble_1 (by decide) ?_
  refine lv_iload_n hx hb dX7_nibble_2 rfl (lv_at hl 1 rfl) ?_
  refine lv_imul hx hb dX7_nibble_3 ?_
  refine lv_lushr hx hb dX7_nibble_4 rfl ?_
  refine lv_l2i hx hb dX7_nibble_5 rfl ?_
  refine lv_bipush (v := 15) hx hb dX7_nibble_6 (by decide) ?_
  refine lv_iand hx hb dX7_nibble_8 ?_
  exact W.iret (v := ((((w.toUInt64 >>> ((4 * pl).toInt64.toUInt64 &&& Int64.toUInt64 63)).toInt64).toInt32) &&& 15)) hx hb hr (fun t ht hW => ⟨⟨((((w.toUInt64 >>> ((4 * pl).toInt64.toUInt64 &&& Int64.toUInt64 63)).toInt64).toInt32) &&& 15), (), rfl, rfl, ht⟩, hS.F ht⟩) hS.2.2 dX7_nibble_9
set_option maxHeartbeats 4000000 in
set_option maxRecDepth 100000 in
theorem c_X7_turned (l : Launch) (w : Int64) (pl : Int32) (b : Int32) : pc_l l yX7_turned wsX7_turned ({ frames := 0, cells := 0, slots := 0, locals := 0 } : Room) [.long w, .int pl, .int b] (fTurn w pl b) := by
  intro H0
  refine Met.ofW (cc := cX7_turned) (maxL := 4) (ret := (some .long)) (by decide) rfl ?_
  intro p e s m args below meth c s₁ B hml hv
  obtain ⟨rfl, rfl⟩ := hv
  have hx := B.exec
  have hb := B.bytes
  have hr := B.returns
  have hts := atoms_spec (ws := wsX7_turned) B.pre
  have hown : s.vm.findClass RX7 = some m.cls := findClass_of_methodNamed B.named
  have hlocks := B.notSynchronized
  have hS : va_S (fun q => s.heap.size ≤ q) s.heap s.heap [] := va_S.rf
  have hA : ∀ q : Nat, s.heap.size ≤ q → (fun q : Nat => s.heap.size ≤ q) q := fun _ h => h
  have hl := lv_entry ([.long w, .int pl, .int b]) (n := 4) (Nat.le_of_ble_eq_true rfl)
  rw [lg_entry_eq]
  generalize (lg_sl ([.long w, .int pl, .int b]) ++ List.replicate (4 - (lg_sl ([.long w, .int pl, .int b])).length) Slot.unset).toArray = ls at hl ⊢
  have hl : lv_has ls 4 [(0, .long w), (2, .int pl), (3, .int b)] := hl
  refine lv_lload_n hx hb dX7_turned_0 rfl (lv_at hl 0 rfl) ?_
  refine lv_iload_n hx hb dX7_turned_1 rfl (lv_at hl 2 rfl) ?_
  refine lv_i2l hx hb dX7_turned_2 rfl ?_
  refine lv_iconst (v := 4) hx hb dX7_turned_3 (by decide) ?_
  refine lv_iload_n hx hb dX7_turned_4 rfl (lv_at hl 1 rfl) ?_
  refine lv_imul hx hb dX7_turned_5 ?_
  refine lv_lshl hx hb dX7_turned_6 rfl ?_
  refine lv_lxor hx hb dX7_turned_7 ?_
  exact W.lret (v := (w ^^^ (b.toInt64 <<< ((4 * pl).toInt64 &&& 63)))) hx hb hr (fun t ht hW => ⟨⟨(w ^^^ (b.toInt64 <<< ((4 * pl).toInt64 &&& 63))), (), rfl, rfl, ht⟩, hS.F ht⟩) hS.2.2 dX7_turned_8
set_option maxHeartbeats 4000000 in
set_option maxRecDepth 100000 in
theorem c_X7_valueOf (l : Launch) (w : Int64) : pc_i l yX7_valueOf wsX7_valueOf ({ frames := 0, cells := 0, slots := 0, locals := 0 } : Room) [.long w] (fVal w) := by
  intro H0
  refine Met.ofW (cc := cX7_valueOf) (maxL := 2) (ret := (some .int)) (by decide) rfl ?_
  intro p e s m args below meth c s₁ B hml hv
  obtain ⟨rfl, rfl⟩ := hv
  have hx := B.exec
  have hb := B.bytes
  have hr := B.returns
  have hts := atoms_spec (ws := wsX7_valueOf) B.pre
  have hown : s.vm.findClass RX7 = some m.cls := findClass_of_methodNamed B.named
  have hlocks := B.notSynchronized
  have hS : va_S (fun q => s.heap.size ≤ q) s.heap s.heap [] := va_S.rf
  have hA : ∀ q : Nat, s.heap.size ≤ q → (fun q : Nat => s.heap.size ≤ q) q := fun _ h => h
  have hl := lv_entry ([.long w]) (n := 2) (Nat.le_of_ble_eq_true rfl)
  rw [lg_entry_eq]
  generalize (lg_sl ([.long w]) ++ List.replicate (2 - (lg_sl ([.long w])).length) Slot.unset).toArray = ls at hl ⊢
  have hl : lv_has ls 2 [(0, .long w)] := hl
  refine lv_lload_n hx hb dX7_valueOf_0 rfl (lv_at hl 0 rfl) ?_
  refine lv_ldc2 (v := 65535) hx hb hown (hts (.constantLong RX7 19 65535) (by decide +kernel)) dX7_valueOf_1 ?_
  refine lv_land hx hb dX7_valueOf_4 ?_
  refine lv_l2i hx hb dX7_valueOf_5 rfl ?_
  exact W.iret (v := (w &&& 65535).toInt32) hx hb hr (fun t ht hW => ⟨⟨(w &&& 65535).toInt32, (), rfl, rfl, ht⟩, hS.F ht⟩) hS.2.2 dX7_valueOf_6
set_option maxHeartbeats 4000000 in
set_option maxRecDepth 100000 in
theorem c_L_nibble (l : Launch) (w : Int64) (pl : Int32) : pc_i l yL_nibble wsL_nibble ({ frames := 0, cells := 0, slots := 0, locals := 0 } : Room) [.long w, .int pl] (gNib w pl) := by
  intro H0
  refine Met.ofW (cc := cL_nibble) (maxL := 3) (ret := (some .int)) (by decide) rfl ?_
  intro p e s m args below meth c s₁ B hml hv
  obtain ⟨rfl, rfl⟩ := hv
  have hx := B.exec
  have hb := B.bytes
  have hr := B.returns
  have hts := atoms_spec (ws := wsL_nibble) B.pre
  have hown : s.vm.findClass RL = some m.cls := findClass_of_methodNamed B.named
  have hlocks := B.notSynchronized
  have hS : va_S (fun q => s.heap.size ≤ q) s.heap s.heap [] := va_S.rf
  have hA : ∀ q : Nat, s.heap.size ≤ q → (fun q : Nat => s.heap.size ≤ q) q := fun _ h => h
  have hl := lv_entry ([.long w, .int pl]) (n := 3) (Nat.le_of_ble_eq_true rfl)
  rw [lg_entry_eq]
  generalize (lg_sl ([.long w, .int pl]) ++ List.replicate (3 - (lg_sl ([.long w, .int pl])).length) Slot.unset).toArray = ls at hl ⊢
  have hl : lv_has ls 3 [(0, .long w), (2, .int pl)] := hl
  refine lv_lload_n hx hb dL_nibble_0 rfl (lv_at hl 0 rfl) ?_
  refine lv_iconst (v := 4) hx hb dL_nibble_1 (by decide) ?_
  refine lv_iload_n hx hb dL_nibble_2 rfl (lv_at hl 1 rfl) ?_
  refine lv_imul hx hb dL_nibble_3 ?_
  refine lv_lshr hx hb dL_nibble_4 rfl ?_
  refine lv_ldc2 (v := 15) hx hb hown (hts (.constantLong RL 50 15) (by decide +kernel)) dL_nibble_5 ?_
  refine lv_land hx hb dL_nibble_8 ?_
  refine lv_l2i hx hb dL_nibble_9 rfl ?_
  exact W.iret (v := ((w >>> ((4 * pl).toInt64 &&& 63)) &&& 15).toInt32) hx hb hr (fun t ht hW => ⟨⟨((w >>> ((4 * pl).toInt64 &&& 63)) &&& 15).toInt32, (), rfl, rfl, ht⟩, hS.F ht⟩) hS.2.2 dL_nibble_10
set_option maxHeartbeats 4000000 in
set_option maxRecDepth 100000 in
theorem c_X7_times (l : Launch) (a : Int32) (b : Int32) : pc_i l yX7_times wsX7_times ({ frames := 0, cells := 0, slots := 0, locals := 0 } : Room) [.int a, .int b] (fTimes a b) := by
  intro H0
  refine Met.ofW (cc := cX7_times) (maxL := 4) (ret := (some .int)) (by decide) rfl ?_
  intro p e s m args below meth c s₁ B hml hv
  obtain ⟨rfl, rfl⟩ := hv
  have hx := B.exec
  have hb := B.bytes
  have hr := B.returns
  have hts := atoms_spec (ws := wsX7_times) B.pre
  have hown : s.vm.findClass RX7 = some m.cls := findClass_of_methodNamed B.named
  have hlocks := B.notSynchronized
  have hS : va_S (fun q => s.heap.size ≤ q) s.heap s.heap [] := va_S.rf
  have hA : ∀ q : Nat, s.heap.size ≤ q → (fun q : Nat => s.heap.size ≤ q) q := fun _ h => h
  have hl := lv_entry ([.int a, .int b]) (n := 4) (Nat.le_of_ble_eq_true rfl)
  rw [lg_entry_eq]
  generalize (lg_sl ([.int a, .int b]) ++ List.replicate (4 - (lg_sl ([.int a, .int b])).length) Slot.unset).toArray = ls at hl ⊢
  have hl : lv_has ls 4 [(0, .int a), (1, .int b)] := hl
  have l2 : ∀ (n : Nat) (q : Int32), n ≤ 3 → fTi2 n q = fTimes a b → ∀ (locs : List Loc) (ls : Array Slot), va_S (fun q => s.heap.size ≤ q) s.heap s.heap locs → lv_has ls 4 [(0, .int a), (1, .int b), (2, .int q), (3, .int (nI (n + 3)))] → pW_i p l e wsX7_times ({ frames := 0, cells := 0, slots := 0, locals := 0 } : Room) s m ([.int a, .int b] : List Value).toArray below meth c (fTimes a b) locs (F0 m 33 ls []) := by
    intro n
    induction n with
    | zero =>
      intro q hn hres locs ls hS hl
      refine lv_iload_n hx hb dX7_times_33 rfl (lv_at hl 3 rfl) ?_
      refine lv_iconst (v := 4) hx hb dX7_times_34 (by decide) ?_
      refine lv_icmp_lt (tgt := 62) hx hb dX7_times_35 (by decide) (fun c_35 => ?_) (fun c_35 => absurd c_35 (by decide))
      refine lv_iload_n hx hb dX7_times_62 rfl (lv_at hl 2 rfl) ?_
      exact W.iret (v := q) hx hb hr (fun t ht hW => ⟨⟨q, (), rfl, hres, ht⟩, hS.F ht⟩) hS.2.2 dX7_times_63
    | succ n ih =>
      intro q hn hres locs ls hS hl
      refine lv_iload_n hx hb dX7_times_33 rfl (lv_at hl 3 rfl) ?_
      refine lv_iconst (v := 4) hx hb dX7_times_34 (by decide) ?_
      refine lv_icmp_lt (tgt := 62) hx hb dX7_times_35 (by decide) (fun c_35 => absurd c_35 (nI_nlt (a := n + 1 + 3) (b := 4) (by omega) (by omega))) (fun c_35 => ?_)
      refine lv_iload_n hx hb dX7_times_38 rfl (lv_at hl 2 rfl) ?_
      refine lv_iload_n hx hb dX7_times_39 rfl (lv_at hl 3 rfl) ?_
      refine lv_ishr hx hb dX7_times_40 ?_
      refine lv_iconst (v := 1) hx hb dX7_times_41 (by decide) ?_
      refine lv_iand hx hb dX7_times_42 ?_
      refine lv_iconst (v := 1) hx hb dX7_times_43 (by decide) ?_
      refine lv_icmp_ne (tgt := 56) hx hb dX7_times_44 (by decide) (fun c_44 => ?_) (fun c_44 => ?_)
      · refine lv_iinc (v := (nI (n + 1 + 3)) + (-1)) (lv' := [(3, .int ((nI (n + 1 + 3)) + (-1))), (0, .int a), (1, .int b), (2, .int q)]) hx hb dX7_times_56 hl (k := 3) rfl rfl (by decide) rfl (fun ls hl => ?_)
        refine lv_goto (tgt := 33) hx hb dX7_times_59 (by decide) ?_
        refine ih _ (Nat.le_of_succ_le hn) (by rw [fTi2, if_neg c_44] at hres; exact hres) _ ls hS ?_
        have hl := (lv_sub (l' := [(0, .int a), (1, .int b), (2, .int q), (3, .int ((nI (n + 1 + 3)) + (-1)))]) hl [1, 2, 3, 0] rfl)
        rw [show nI (n + 1 + 3) + (-1) = nI (n + 3) from pk_m1 (n + 3)] at hl
        exact hl
      · refine lv_iload_n hx hb dX7_times_47 rfl (lv_at hl 2 rfl) ?_
        refine lv_bipush (v := 19) hx hb dX7_times_48 (by decide) ?_
        refine lv_iload_n hx hb dX7_times_50 rfl (lv_at hl 3 rfl) ?_
        refine lv_iconst (v := 4) hx hb dX7_times_51 (by decide) ?_
        refine lv_isub hx hb dX7_times_52 ?_
        refine lv_ishl hx hb dX7_times_53 ?_
        refine lv_ixor hx hb dX7_times_54 ?_
        refine lv_istore_n (lv' := [(2, .int (q ^^^ ((19 : Int32) <<< (((nI (n + 1 + 3)) - 4) &&& 31)))), (0, .int a), (1, .int b), (3, .int (nI (n + 1 + 3)))]) hx hb dX7_times_55 rfl hl (by decide) rfl (fun ls hl => ?_)
        refine lv_iinc (v := (nI (n + 1 + 3)) + (-1)) (lv' := [(3, .int ((nI (n + 1 + 3)) + (-1))), (2, .int (q ^^^ ((19 : Int32) <<< (((nI (n + 1 + 3)) - 4) &&& 31)))), (0, .int a), (1, .int b)]) hx hb dX7_times_56 hl (k := 3) rfl rfl (by decide) rfl (fun ls hl => ?_)
        refine lv_goto (tgt := 33) hx hb dX7_times_59 (by decide) ?_
        refine ih _ (Nat.le_of_succ_le hn) (by rw [fTi2, if_pos c_44] at hres; exact hres) _ ls hS ?_
        have hl := (lv_sub (l' := [(0, .int a), (1, .int b), (2, .int (q ^^^ ((19 : Int32) <<< (((nI (n + 1 + 3)) - 4) &&& 31)))), (3, .int ((nI (n + 1 + 3)) + (-1)))]) hl [2, 3, 1, 0] rfl)
        rw [show nI (n + 1 + 3) + (-1) = nI (n + 3) from pk_m1 (n + 3)] at hl
        exact hl
  have l1 : ∀ (n k : Nat) (q : Int32), k + n = 4 → fTi2 3 (fTi1 a b n k q) = fTimes a b → ∀ (locs : List Loc) (ls : Array Slot), va_S (fun q => s.heap.size ≤ q) s.heap s.heap locs → lv_has ls 4 [(0, .int a), (1, .int b), (2, .int q), (3, .int (nI k))] → pW_i p l e wsX7_times ({ frames := 0, cells := 0, slots := 0, locals := 0 } : Room) s m ([.int a, .int b] : List Value).toArray below meth c (fTimes a b) locs (F0 m 4 ls []) := by
    intro n
    induction n with
    | zero =>
      intro k q hk_l1  hres_l1 locs ls hS hl
      obtain rfl : k = 4 := by omega
      refine lv_iload_n hx hb dX7_times_4 rfl (lv_at hl 3 rfl) ?_
      refine lv_iconst (v := 4) hx hb dX7_times_5 (by decide) ?_
      refine lv_icmp_ge (tgt := 30) hx hb dX7_times_6 (by decide) (fun c_6 => ?_) (fun c_6 => absurd c_6 (by decide))
      refine lv_bipush (v := 6) hx hb dX7_times_30 (by decide) ?_
      refine lv_istore_n (lv' := [(3, .int 6), (0, .int a), (1, .int b), (2, .int q)]) hx hb dX7_times_32 rfl hl (by decide) rfl (fun ls hl => ?_)
      exact l2 3 _ (Nat.le_refl 3) hres_l1 _ ls hS (lv_sub hl [1, 2, 3, 0] rfl)
    | succ n ih =>
      intro k q hk_l1  hres_l1 locs ls hS hl
      refine lv_iload_n hx hb dX7_times_4 rfl (lv_at hl 3 rfl) ?_
      refine lv_iconst (v := 4) hx hb dX7_times_5 (by decide) ?_
      refine lv_icmp_ge (tgt := 30) hx hb dX7_times_6 (by decide) (fun c_6 => absurd c_6 (nI_ge (a := k) (b := 4) (by omega) (by omega))) (fun c_6 => ?_)
      refine lv_iload_n hx hb dX7_times_9 rfl (lv_at hl 1 rfl) ?_
      refine lv_iload_n hx hb dX7_times_10 rfl (lv_at hl 3 rfl) ?_
      refine lv_ishr hx hb dX7_times_11 ?_
      refine lv_iconst (v := 1) hx hb dX7_times_12 (by decide) ?_
      refine lv_iand hx hb dX7_times_13 ?_
      refine lv_iconst (v := 1) hx hb dX7_times_14 (by decide) ?_
      refine lv_icmp_ne (tgt := 24) hx hb dX7_times_15 (by decide) (fun c_15 => ?_) (fun c_15 => ?_)
      · refine lv_iinc (v := nI (k + 1)) (lv' := [(3, .int (nI (k + 1))), (0, .int a), (1, .int b), (2, .int q)]) hx hb dX7_times_24 hl (k := 3) rfl (nI_1 _) (by decide) rfl (fun ls hl => ?_)
        refine lv_goto (tgt := 4) hx hb dX7_times_27 (by decide) ?_
        exact ih (k + 1) _ (by omega) (by rw [fTi1, if_neg c_15] at hres_l1; exact hres_l1) _ ls hS (lv_sub hl [1, 2, 3, 0] rfl)
      · refine lv_iload_n hx hb dX7_times_18 rfl (lv_at hl 2 rfl) ?_
        refine lv_iload_n hx hb dX7_times_19 rfl (lv_at hl 0 rfl) ?_
        refine lv_iload_n hx hb dX7_times_20 rfl (lv_at hl 3 rfl) ?_
        refine lv_ishl hx hb dX7_times_21 ?_
        refine lv_ixor hx hb dX7_times_22 ?_
        refine lv_istore_n (lv' := [(2, .int (q ^^^ (a <<< ((nI k) &&& 31)))), (0, .int a), (1, .int b), (3, .int (nI k))]) hx hb dX7_times_23 rfl hl (by decide) rfl (fun ls hl => ?_)
        refine lv_iinc (v := nI (k + 1)) (lv' := [(3, .int (nI (k + 1))), (2, .int (q ^^^ (a <<< ((nI k) &&& 31)))), (0, .int a), (1, .int b)]) hx hb dX7_times_24 hl (k := 3) rfl (nI_1 _) (by decide) rfl (fun ls hl => ?_)
        refine lv_goto (tgt := 4) hx hb dX7_times_27 (by decide) ?_
        exact ih (k + 1) _ (by omega) (by rw [fTi1, if_pos c_15] at hres_l1; exact hres_l1) _ ls hS (lv_sub hl [2, 3, 1, 0] rfl)
  refine lv_iconst (v := 0) hx hb dX7_times_0 (by decide) ?_
  refine lv_istore_n (lv' := [(2, .int 0), (0, .int a), (1, .int b)]) hx hb dX7_times_1 rfl hl (by decide) rfl (fun ls hl => ?_)
  refine lv_iconst (v := 0) hx hb dX7_times_2 (by decide) ?_
  refine lv_istore_n (lv' := [(3, .int 0), (2, .int 0), (0, .int a), (1, .int b)]) hx hb dX7_times_3 rfl hl (by decide) rfl (fun ls hl => ?_)
  exact l1 4 0 0 rfl rfl _ ls hS (lv_sub hl [2, 3, 1, 0] rfl)
set_option maxHeartbeats 4000000 in
set_option maxRecDepth 100000 in
theorem c_X7_differences (l : Launch) (a : Int64) (b : Int64) : pc_i l yX7_differences wsX7_differences ({ frames := 1, cells := 0, slots := 0, locals := 22 } : Room) [.long a, .long b] (fDiff a b) := by
  intro H0
  refine Met.ofW (cc := cX7_differences) (maxL := 6) (ret := (some .int)) (by decide) rfl ?_
  intro p e s m args below meth c s₁ B hml hv
  obtain ⟨rfl, rfl⟩ := hv
  have hx := B.exec
  have hb := B.bytes
  have hr := B.returns
  have hts := atoms_spec (ws := wsX7_differences) B.pre
  have hown : s.vm.findClass RX7 = some m.cls := findClass_of_methodNamed B.named
  have hlocks := B.notSynchronized
  have hS : va_S (fun q => s.heap.size ≤ q) s.heap s.heap [] := va_S.rf
  have hA : ∀ q : Nat, s.heap.size ≤ q → (fun q : Nat => s.heap.size ≤ q) q := fun _ h => h
  have hl := lv_entry ([.long a, .long b]) (n := 6) (Nat.le_of_ble_eq_true rfl)
  rw [lg_entry_eq]
  generalize (lg_sl ([.long a, .long b]) ++ List.replicate (6 - (lg_sl ([.long a, .long b])).length) Slot.unset).toArray = ls at hl ⊢
  have hl : lv_has ls 6 [(0, .long a), (2, .long b)] := hl
  have l1 : ∀ (n k : Nat) (q : Int32), k + n = 8 → fDi a b n k q = fDiff a b → ∀ (locs : List Loc) (ls : Array Slot), va_S (fun q => s.heap.size ≤ q) s.heap s.heap locs → lv_has ls 6 [(0, .long a), (2, .long b), (4, .int q), (5, .int (nI k))] → pW_i p l e wsX7_differences ({ frames := 1, cells := 0, slots := 0, locals := 22 } : Room) s m ([.long a, .long b] : List Value).toArray below meth c (fDiff a b) locs (F0 m 6 ls []) := by
    intro n
    induction n with
    | zero =>
      intro k q hk_l1  hres_l1 locs ls hS hl
      obtain rfl : k = 8 := by omega
      refine lv_iload hx hb dX7_differences_6 (lv_at hl 3 rfl) ?_
      refine lv_bipush (v := 8) hx hb dX7_differences_8 (by decide) ?_
      refine lv_icmp_ge (tgt := 37) hx hb dX7_differences_10 (by decide) (fun c_10 => ?_) (fun c_10 => absurd c_10 (by decide))
      refine lv_iload hx hb dX7_differences_37 (lv_at hl 2 rfl) ?_
      exact W.iret (v := q) hx hb hr (fun t ht hW => ⟨⟨q, (), rfl, hres_l1, ht⟩, hS.F ht⟩) hS.2.2 dX7_differences_39
    | succ n ih =>
      intro k q hk_l1  hres_l1 locs ls hS hl
      refine lv_iload hx hb dX7_differences_6 (lv_at hl 3 rfl) ?_
      refine lv_bipush (v := 8) hx hb dX7_differences_8 (by decide) ?_
      refine lv_icmp_ge (tgt := 37) hx hb dX7_differences_10 (by decide) (fun c_10 => absurd c_10 (nI_ge (a := k) (b := 8) (by omega) (by omega))) (fun c_10 => ?_)
      refine lv_lload_n hx hb dX7_differences_13 rfl (lv_at hl 0 rfl) ?_
      refine lv_iload hx hb dX7_differences_14 (lv_at hl 3 rfl) ?_
      refine pu_calli (As := [.long a, .int (nI k)]) (rest := []) ⟨hx, hb, hml, hown, hts⟩ (c_X7_nibble l a (nI k)) (va_cwS 2 hts gX7_differences_X7_nibble rfl rfl rfl (by decide +kernel) ⟨(Nat.le_of_ble_eq_true rfl), (Nat.le_of_ble_eq_true rfl)⟩) rfl hl.1 (lv_room (Nat.le_of_ble_eq_true rfl)) dX7_differences_16 ⟨Nat.zero_le _, Nat.zero_le _⟩ hS hA rfl (fun locs hS => ?_)
      refine lv_lload_n hx hb dX7_differences_19 rfl (lv_at hl 1 rfl) ?_
      refine lv_iload hx hb dX7_differences_20 (lv_at hl 3 rfl) ?_
      refine pu_calli (As := [.long b, .int (nI k)]) (rest := [.int (fNib a (nI k))]) ⟨hx, hb, hml, hown, hts⟩ (c_X7_nibble l b (nI k)) (va_cwS 2 hts gX7_differences_X7_nibble rfl rfl rfl (by decide +kernel) ⟨(Nat.le_of_ble_eq_true rfl), (Nat.le_of_ble_eq_true rfl)⟩) rfl hl.1 (lv_room (Nat.le_of_ble_eq_true rfl)) dX7_differences_22 ⟨Nat.zero_le _, Nat.zero_le _⟩ hS hA rfl (fun locs hS => ?_)
      refine lv_icmp_eq (tgt := 31) hx hb dX7_differences_25 (by decide) (fun c_25 => ?_) (fun c_25 => ?_)
      · refine lv_iinc (v := nI (k + 1)) (lv' := [(5, .int (nI (k + 1))), (0, .long a), (2, .long b), (4, .int q)]) hx hb dX7_differences_31 hl (k := 3) rfl (nI_1 _) (by decide) rfl (fun ls hl => ?_)
        refine lv_goto (tgt := 6) hx hb dX7_differences_34 (by decide) ?_
        exact ih (k + 1) _ (by omega) (by rw [fDi, if_pos c_25] at hres_l1; exact hres_l1) _ ls hS (lv_sub hl [1, 2, 3, 0] rfl)
      · refine lv_iinc (v := q + 1) (lv' := [(4, .int (q + 1)), (0, .long a), (2, .long b), (5, .int (nI k))]) hx hb dX7_differences_28 hl (k := 2) rfl rfl (by decide) rfl (fun ls hl => ?_)
        refine lv_iinc (v := nI (k + 1)) (lv' := [(5, .int (nI (k + 1))), (4, .int (q + 1)), (0, .long a), (2, .long b)]) hx hb dX7_differences_31 hl (k := 3) rfl (nI_1 _) (by decide) rfl (fun ls hl => ?_)
        refine lv_goto (tgt := 6) hx hb dX7_differences_34 (by decide) ?_
        exact ih (k + 1) _ (by omega) (by rw [fDi, if_neg c_25] at hres_l1; exact hres_l1) _ ls hS (lv_sub hl [2, 3, 1, 0] rfl)
  refine lv_iconst (v := 0) hx hb dX7_differences_0 (by decide) ?_
  refine lv_istore (lv' := [(4, .int 0), (0, .long a), (2, .long b)]) hx hb dX7_differences_1 hl (by decide) rfl (fun ls hl => ?_)
  refine lv_iconst (v := 0) hx hb dX7_differences_3 (by decide) ?_
  refine lv_istore (lv' := [(5, .int 0), (4, .int 0), (0, .long a), (2, .long b)]) hx hb dX7_differences_4 hl (by decide) rfl (fun ls hl => ?_)
  exact l1 8 0 0 rfl rfl _ ls hS (lv_sub hl [2, 3, 1, 0] rfl)
set_option maxHeartbeats 4000000 in
set_option maxRecDepth 100000 in
theorem c_X7_sumsOf (l : Launch) (w : Int64) : pc_i l yX7_sumsOf wsX7_sumsOf ({ frames := 1, cells := 0, slots := 0, locals := 23 } : Room) [.long w] (fSums w) := by
  intro H0
  refine Met.ofW (cc := cX7_sumsOf) (maxL := 6) (ret := (some .int)) (by decide) rfl ?_
  intro p e s m args below meth c s₁ B hml hv
  obtain ⟨rfl, rfl⟩ := hv
  have hx := B.exec
  have hb := B.bytes
  have hr := B.returns
  have hts := atoms_spec (ws := wsX7_sumsOf) B.pre
  have hown : s.vm.findClass RX7 = some m.cls := findClass_of_methodNamed B.named
  have hlocks := B.notSynchronized
  have hS : va_S (fun q => s.heap.size ≤ q) s.heap s.heap [] := va_S.rf
  have hA : ∀ q : Nat, s.heap.size ≤ q → (fun q : Nat => s.heap.size ≤ q) q := fun _ h => h
  have hl := lv_entry ([.long w]) (n := 6) (Nat.le_of_ble_eq_true rfl)
  rw [lg_entry_eq]
  generalize (lg_sl ([.long w]) ++ List.replicate (6 - (lg_sl ([.long w])).length) Slot.unset).toArray = ls at hl ⊢
  have hl : lv_has ls 6 [(0, .long w)] := hl
  have l1 : ∀ (n k : Nat) (q : Int32), k + n = 4 → fSuO w n k q = fSums w → ∀ (locs : List Loc) (ls : Array Slot), va_S (fun q => s.heap.size ≤ q) s.heap s.heap locs → lv_has ls 6 [(0, .long w), (2, .int q), (3, .int (nI k))] → pW_i p l e wsX7_sumsOf ({ frames := 1, cells := 0, slots := 0, locals := 23 } : Room) s m ([.long w] : List Value).toArray below meth c (fSums w) locs (F0 m 4 ls []) := by
    intro n
    induction n with
    | zero =>
      intro k q hk_l1  hres_l1 locs ls hS hl
      obtain rfl : k = 4 := by omega
      refine lv_iload_n hx hb dX7_sumsOf_4 rfl (lv_at hl 2 rfl) ?_
      refine lv_iconst (v := 4) hx hb dX7_sumsOf_5 (by decide) ?_
      refine lv_icmp_ge (tgt := 59) hx hb dX7_sumsOf_6 (by decide) (fun c_6 => ?_) (fun c_6 => absurd c_6 (by decide))
      refine lv_iload_n hx hb dX7_sumsOf_59 rfl (lv_at hl 1 rfl) ?_
      exact W.iret (v := q) hx hb hr (fun t ht hW => ⟨⟨q, (), rfl, hres_l1, ht⟩, hS.F ht⟩) hS.2.2 dX7_sumsOf_60
    | succ n ih =>
      intro k q hk_l1  hres_l1 locs ls hS hl
      have l2 : ∀ (j : Nat) (z : Int32), j ≤ 8 → fSuI w (nI k) j z = fSuI w (nI k) 8 0 → ∀ (locs : List Loc) (ls : Array Slot), va_S (fun q => s.heap.size ≤ q) s.heap s.heap locs → lv_has ls 6 [(0, .long w), (2, .int q), (3, .int (nI k)), (4, .int z), (5, .int (nI j + (-1)))] → pW_i p l e wsX7_sumsOf ({ frames := 1, cells := 0, slots := 0, locals := 23 } : Room) s m ([.long w] : List Value).toArray below meth c (fSums w) locs (F0 m 16 ls []) := by
        intro j
        induction j with
        | zero =>
          intro z hk_l2 hres_l2 locs ls hS hl
          refine lv_iload hx hb dX7_sumsOf_16 (lv_at hl 4 rfl) ?_
          refine lv_if_lt (tgt := 44) hx hb dX7_sumsOf_18 (by decide) (fun c_18 => ?_) (fun c_18 => absurd c_18 (by decide))
          refine lv_iload_n hx hb dX7_sumsOf_44 rfl (lv_at hl 1 rfl) ?_
          refine lv_iload hx hb dX7_sumsOf_45 (lv_at hl 3 rfl) ?_
          refine lv_iconst (v := 4) hx hb dX7_sumsOf_47 (by decide) ?_
          refine lv_iload_n hx hb dX7_sumsOf_48 rfl (lv_at hl 2 rfl) ?_
          refine lv_imul hx hb dX7_sumsOf_49 ?_
          refine lv_ishl hx hb dX7_sumsOf_50 ?_
          refine lv_ior hx hb dX7_sumsOf_51 ?_
          refine lv_istore_n (lv' := [(2, .int (q ||| (z <<< ((4 * (nI k)) &&& 31)))), (0, .long w), (3, .int (nI k)), (4, .int z), (5, .int (nI 0 + (-1)))]) hx hb dX7_sumsOf_52 rfl hl (by decide) rfl (fun ls hl => ?_)
          refine lv_iinc (v := nI (k + 1)) (lv' := [(3, .int (nI (k + 1))), (2, .int (q ||| (z <<< ((4 * (nI k)) &&& 31)))), (0, .long w), (4, .int z), (5, .int (nI 0 + (-1)))]) hx hb dX7_sumsOf_53 hl (k := 2) rfl (nI_1 _) (by decide) rfl (fun ls hl => ?_)
          refine lv_goto (tgt := 4) hx hb dX7_sumsOf_56 (by decide) ?_
          exact ih (k + 1) _ (by omega) (by rw [fSuO, ← hres_l2] at hres_l1; exact hres_l1) _ ls hS (lv_sub hl [2, 1, 0] rfl)
        | succ j ih2 =>
          intro z hk_l2 hres_l2 locs ls hS hl
          rw [pk_m1 j] at hl
          refine lv_iload hx hb dX7_sumsOf_16 (lv_at hl 4 rfl) ?_
          refine lv_if_lt (tgt := 44) hx hb dX7_sumsOf_18 (by decide) (fun c_18 => absurd c_18 (nI_pos (n := j) (by omega))) (fun c_18 => ?_)
          refine lv_iload hx hb dX7_sumsOf_21 (lv_at hl 3 rfl) ?_
          refine lv_iconst (v := 1) hx hb dX7_sumsOf_23 (by decide) ?_
          refine lv_iload_n hx hb dX7_sumsOf_24 rfl (lv_at hl 2 rfl) ?_
          refine lv_ishl hx hb dX7_sumsOf_25 ?_
          refine pu_calli (As := [.int z, .int ((1 : Int32) <<< ((nI k) &&& 31))]) (rest := []) ⟨hx, hb, hml, hown, hts⟩ (c_X7_times l z ((1 : Int32) <<< ((nI k) &&& 31))) (va_cwS 2 hts gX7_sumsOf_X7_times rfl rfl rfl (by decide +kernel) ⟨(Nat.le_of_ble_eq_true rfl), (Nat.le_of_ble_eq_true rfl)⟩) rfl hl.1 (lv_room (Nat.le_of_ble_eq_true rfl)) dX7_sumsOf_26 ⟨Nat.zero_le _, Nat.zero_le _⟩ hS hA rfl (fun locs hS => ?_)
          refine lv_lload_n hx hb dX7_sumsOf_29 rfl (lv_at hl 0 rfl) ?_
          refine lv_iload hx hb dX7_sumsOf_30 (lv_at hl 4 rfl) ?_
          refine pu_calli (As := [.long w, .int (nI j)]) (rest := [.int (fTimes z ((1 : Int32) <<< ((nI k) &&& 31)))]) ⟨hx, hb, hml, hown, hts⟩ (c_X7_nibble l w (nI j)) (va_cwS 2 hts gX7_sumsOf_X7_nibble rfl rfl rfl (by decide +kernel) ⟨(Nat.le_of_ble_eq_true rfl), (Nat.le_of_ble_eq_true rfl)⟩) rfl hl.1 (lv_room (Nat.le_of_ble_eq_true rfl)) dX7_sumsOf_32 ⟨Nat.zero_le _, Nat.zero_le _⟩ hS hA rfl (fun locs hS => ?_)
          refine lv_ixor hx hb dX7_sumsOf_35 ?_
          refine lv_istore (lv' := [(4, .int ((fTimes z ((1 : Int32) <<< ((nI k) &&& 31))) ^^^ (fNib w (nI j)))), (0, .long w), (2, .int q), (3, .int (nI k)), (5, .int (nI j))]) hx hb dX7_sumsOf_36 hl (by decide) rfl (fun ls hl => ?_)
          refine lv_iinc (v := (nI j) + (-1)) (lv' := [(5, .int ((nI j) + (-1))), (4, .int ((fTimes z ((1 : Int32) <<< ((nI k) &&& 31))) ^^^ (fNib w (nI j)))), (0, .long w), (2, .int q), (3, .int (nI k))]) hx hb dX7_sumsOf_38 hl (k := 4) rfl rfl (by decide) rfl (fun ls hl => ?_)
          refine lv_goto (tgt := 16) hx hb dX7_sumsOf_41 (by decide) ?_
          exact ih2 _ (by omega) (by rw [fSuI] at hres_l2; exact hres_l2) _ ls hS (lv_sub hl [2, 3, 4, 1, 0] rfl)
      refine lv_iload_n hx hb dX7_sumsOf_4 rfl (lv_at hl 2 rfl) ?_
      refine lv_iconst (v := 4) hx hb dX7_sumsOf_5 (by decide) ?_
      refine lv_icmp_ge (tgt := 59) hx hb dX7_sumsOf_6 (by decide) (fun c_6 => absurd c_6 (nI_ge (a := k) (b := 4) (by omega) (by omega))) (fun c_6 => ?_)
      refine lv_iconst (v := 0) hx hb dX7_sumsOf_9 (by decide) ?_
      refine lv_istore (lv' := [(4, .int 0), (0, .long w), (2, .int q), (3, .int (nI k))]) hx hb dX7_sumsOf_10 hl (by decide) rfl (fun ls hl => ?_)
      refine lv_bipush (v := 7) hx hb dX7_sumsOf_12 (by decide) ?_
      refine lv_istore (lv' := [(5, .int 7), (4, .int 0), (0, .long w), (2, .int q), (3, .int (nI k))]) hx hb dX7_sumsOf_14 hl (by decide) rfl (fun ls hl => ?_)
      exact l2 8 0 (Nat.le_refl 8) rfl _ ls hS (lv_sub hl [2, 3, 4, 1, 0] rfl)
  refine lv_iconst (v := 0) hx hb dX7_sumsOf_0 (by decide) ?_
  refine lv_istore_n (lv' := [(2, .int 0), (0, .long w)]) hx hb dX7_sumsOf_1 rfl hl (by decide) rfl (fun ls hl => ?_)
  refine lv_iconst (v := 0) hx hb dX7_sumsOf_2 (by decide) ?_
  refine lv_istore_n (lv' := [(3, .int 0), (2, .int 0), (0, .long w)]) hx hb dX7_sumsOf_3 rfl hl (by decide) rfl (fun ls hl => ?_)
  exact l1 4 0 0 rfl rfl _ ls hS (lv_sub hl [2, 1, 0] rfl)
set_option maxHeartbeats 4000000 in
set_option maxRecDepth 100000 in
theorem c_X7_quotient (l : Launch) (pr : Int32) (fa : Int32) : pc_i l yX7_quotient wsX7_quotient ({ frames := 1, cells := 0, slots := 0, locals := 23 } : Room) [.int pr, .int fa] (fQuot pr fa) := by
  intro H0
  refine Met.ofW (cc := cX7_quotient) (maxL := 3) (ret := (some .int)) (by decide) rfl ?_
  intro p e s m args below meth c s₁ B hml hv
  obtain ⟨rfl, rfl⟩ := hv
  have hx := B.exec
  have hb := B.bytes
  have hr := B.returns
  have hts := atoms_spec (ws := wsX7_quotient) B.pre
  have hown : s.vm.findClass RX7 = some m.cls := findClass_of_methodNamed B.named
  have hlocks := B.notSynchronized
  have hS : va_S (fun q => s.heap.size ≤ q) s.heap s.heap [] := va_S.rf
  have hA : ∀ q : Nat, s.heap.size ≤ q → (fun q : Nat => s.heap.size ≤ q) q := fun _ h => h
  have hl := lv_entry ([.int pr, .int fa]) (n := 3) (Nat.le_of_ble_eq_true rfl)
  rw [lg_entry_eq]
  generalize (lg_sl ([.int pr, .int fa]) ++ List.replicate (3 - (lg_sl ([.int pr, .int fa])).length) Slot.unset).toArray = ls at hl ⊢
  have hl : lv_has ls 3 [(0, .int pr), (1, .int fa)] := hl
  have l1 : ∀ (n k : Nat) , k + n = 16 → fQu pr fa n k = fQuot pr fa → ∀ (locs : List Loc) (ls : Array Slot), va_S (fun q => s.heap.size ≤ q) s.heap s.heap locs → lv_has ls 3 [(0, .int pr), (1, .int fa), (2, .int (nI k))] → pW_i p l e wsX7_quotient ({ frames := 1, cells := 0, slots := 0, locals := 23 } : Room) s m ([.int pr, .int fa] : List Value).toArray below meth c (fQuot pr fa) locs (F0 m 2 ls []) := by
    intro n
    induction n with
    | zero =>
      intro k  hk_l1  hres_l1 locs ls hS hl
      obtain rfl : k = 16 := by omega
      refine lv_iload_n hx hb dX7_quotient_2 rfl (lv_at hl 2 rfl) ?_
      refine lv_bipush (v := 16) hx hb dX7_quotient_3 (by decide) ?_
      refine lv_icmp_ge (tgt := 25) hx hb dX7_quotient_5 (by decide) (fun c_5 => ?_) (fun c_5 => absurd c_5 (by decide))
      refine lv_iconst (v := 0) hx hb dX7_quotient_25 (by decide) ?_
      exact W.iret (v := 0) hx hb hr (fun t ht hW => ⟨⟨0, (), rfl, hres_l1, ht⟩, hS.F ht⟩) hS.2.2 dX7_quotient_26
    | succ n ih =>
      intro k  hk_l1  hres_l1 locs ls hS hl
      refine lv_iload_n hx hb dX7_quotient_2 rfl (lv_at hl 2 rfl) ?_
      refine lv_bipush (v := 16) hx hb dX7_quotient_3 (by decide) ?_
      refine lv_icmp_ge (tgt := 25) hx hb dX7_quotient_5 (by decide) (fun c_5 => absurd c_5 (nI_ge (a := k) (b := 16) (by omega) (by omega))) (fun c_5 => ?_)
      refine lv_iload_n hx hb dX7_quotient_8 rfl (lv_at hl 2 rfl) ?_
      refine lv_iload_n hx hb dX7_quotient_9 rfl (lv_at hl 1 rfl) ?_
      refine pu_calli (As := [.int (nI k), .int fa]) (rest := []) ⟨hx, hb, hml, hown, hts⟩ (c_X7_times l (nI k) fa) (va_cwS 2 hts gX7_quotient_X7_times rfl rfl rfl (by decide +kernel) ⟨(Nat.le_of_ble_eq_true rfl), (Nat.le_of_ble_eq_true rfl)⟩) rfl hl.1 (lv_room (Nat.le_of_ble_eq_true rfl)) dX7_quotient_10 ⟨Nat.zero_le _, Nat.zero_le _⟩ hS hA rfl (fun locs hS => ?_)
      refine lv_iload_n hx hb dX7_quotient_13 rfl (lv_at hl 0 rfl) ?_
      refine lv_icmp_ne (tgt := 19) hx hb dX7_quotient_14 (by decide) (fun c_14 => ?_) (fun c_14 => ?_)
      · refine lv_iinc (v := nI (k + 1)) (lv' := [(2, .int (nI (k + 1))), (0, .int pr), (1, .int fa)]) hx hb dX7_quotient_19 hl (k := 2) rfl (nI_1 _) (by decide) rfl (fun ls hl => ?_)
        refine lv_goto (tgt := 2) hx hb dX7_quotient_22 (by decide) ?_
        exact ih (k + 1) (by omega) (by rw [fQu, if_neg c_14] at hres_l1; exact hres_l1) _ ls hS (lv_sub hl [1, 2, 0] rfl)
      · refine lv_iload_n hx hb dX7_quotient_17 rfl (lv_at hl 2 rfl) ?_
        exact W.iret (v := nI k) hx hb hr (fun t ht hW => ⟨⟨nI k, (), rfl, (by rw [fQu, if_pos c_14] at hres_l1; exact hres_l1), ht⟩, hS.F ht⟩) hS.2.2 dX7_quotient_18
  refine lv_iconst (v := 0) hx hb dX7_quotient_0 (by decide) ?_
  refine lv_istore_n (lv' := [(2, .int 0), (0, .int pr), (1, .int fa)]) hx hb dX7_quotient_1 rfl hl (by decide) rfl (fun ls hl => ?_)
  exact l1 16 0 rfl rfl _ ls hS (lv_sub hl [1, 2, 0] rfl)
set_option maxHeartbeats 4000000 in
set_option maxRecDepth 100000 in
theorem c_X7_sumsWithout (l : Launch) (sums : Int32) (pls : Int32) : pc_i l yX7_sumsWithout wsX7_sumsWithout ({ frames := 1, cells := 0, slots := 0, locals := 23 } : Room) [.int sums, .int pls] (fSw sums pls) := by
  intro H0
  refine Met.ofW (cc := cX7_sumsWithout) (maxL := 8) (ret := (some .int)) (by decide) rfl ?_
  intro p e s m args below meth c s₁ B hml hv
  obtain ⟨rfl, rfl⟩ := hv
  have hx := B.exec
  have hb := B.bytes
  have hr := B.returns
  have hts := atoms_spec (ws := wsX7_sumsWithout) B.pre
  have hown : s.vm.findClass RX7 = some m.cls := findClass_of_methodNamed B.named
  have hlocks := B.notSynchronized
  have hS : va_S (fun q => s.heap.size ≤ q) s.heap s.heap [] := va_S.rf
  have hA : ∀ q : Nat, s.heap.size ≤ q → (fun q : Nat => s.heap.size ≤ q) q := fun _ h => h
  have hl := lv_entry ([.int sums, .int pls]) (n := 8) (Nat.le_of_ble_eq_true rfl)
  rw [lg_entry_eq]
  generalize (lg_sl ([.int sums, .int pls]) ++ List.replicate (8 - (lg_sl ([.int sums, .int pls])).length) Slot.unset).toArray = ls at hl ⊢
  have hl : lv_has ls 8 [(0, .int sums), (1, .int pls)] := hl
  have l1 : ∀ (n k : Nat) (q : Int32) (d : Nat), k + n = 8 → d ≤ k → fSwO pls n k q d = fSw sums pls → ∀ (locs : List Loc) (ls : Array Slot), va_S (fun q => s.heap.size ≤ q) s.heap s.heap locs → lv_has ls 8 [(0, .int sums), (1, .int pls), (2, .int q), (3, .int (fLen d)), (4, .int (nI k))] → pW_i p l e wsX7_sumsWithout ({ frames := 1, cells := 0, slots := 0, locals := 23 } : Room) s m ([.int sums, .int pls] : List Value).toArray below meth c (fSw sums pls) locs (F0 m 7 ls []) := by
    intro n
    induction n with
    | zero =>
      intro k q d hk_l1 hd hres_l1 locs ls hS hl
      obtain rfl : k = 8 := by omega
      refine lv_iload hx hb dX7_sumsWithout_7 (lv_at hl 4 rfl) ?_
      refine lv_bipush (v := 8) hx hb dX7_sumsWithout_9 (by decide) ?_
      refine lv_icmp_ge (tgt := 96) hx hb dX7_sumsWithout_11 (by decide) (fun c_11 => ?_) (fun c_11 => absurd c_11 (by decide))
      refine lv_iload_n hx hb dX7_sumsWithout_96 rfl (lv_at hl 2 rfl) ?_
      exact W.iret (v := q) hx hb hr (fun t ht hW => ⟨⟨q, (), rfl, hres_l1, ht⟩, hS.F ht⟩) hS.2.2 dX7_sumsWithout_97
    | succ n ih =>
      intro k q d hk_l1 hd hres_l1 locs ls hS hl
      have l2 : (pls >>> (nI k &&& 31)) &&& 1 = 1 → ∀ (n2 j : Nat) (z : Int32), j + n2 = 4 → fSwI q (fNib 3160638497 (nI k)) (fLen (d + 1)) n2 j z = fSwI q (fNib 3160638497 (nI k)) (fLen (d + 1)) 4 0 0 → ∀ (locs : List Loc) (ls : Array Slot), va_S (fun q => s.heap.size ≤ q) s.heap s.heap locs → lv_has ls 8 [(0, .int sums), (1, .int pls), (2, .int q), (3, .int (fLen (d + 1))), (4, .int (nI k)), (5, .int (fNib 3160638497 (nI k))), (6, .int z), (7, .int (nI j))] → pW_i p l e wsX7_sumsWithout ({ frames := 1, cells := 0, slots := 0, locals := 23 } : Room) s m ([.int sums, .int pls] : List Value).toArray below meth c (fSw sums pls) locs (F0 m 43 ls []) := by
        intro c_21 n2
        induction n2 with
        | zero =>
          intro j z hj hres_l2 locs ls hS hl
          obtain rfl : j = 4 := by omega
          refine lv_iload hx hb dX7_sumsWithout_43 (lv_at hl 7 rfl) ?_
          refine lv_iload_n hx hb dX7_sumsWithout_45 rfl (lv_at hl 3 rfl) ?_
          refine lv_icmp_ge (tgt := 87) hx hb dX7_sumsWithout_46 (by decide) (fun c_46 => ?_) (fun c_46 => absurd (fLen_le (d + 1) (by omega)) c_46)
          refine lv_iload hx hb dX7_sumsWithout_87 (lv_at hl 6 rfl) ?_
          refine lv_istore_n (lv' := [(2, .int z), (0, .int sums), (1, .int pls), (3, .int (fLen (d + 1))), (4, .int (nI k)), (5, .int (fNib 3160638497 (nI k))), (6, .int z), (7, .int (nI 4))]) hx hb dX7_sumsWithout_89 rfl hl (by decide) rfl (fun ls hl => ?_)
          refine lv_iinc (v := nI (k + 1)) (lv' := [(4, .int (nI (k + 1))), (2, .int z), (0, .int sums), (1, .int pls), (3, .int (fLen (d + 1))), (5, .int (fNib 3160638497 (nI k))), (6, .int z), (7, .int (nI 4))]) hx hb dX7_sumsWithout_90 hl (k := 4) rfl (nI_1 _) (by decide) rfl (fun ls hl => ?_)
          refine lv_goto (tgt := 7) hx hb dX7_sumsWithout_93 (by decide) ?_
          exact ih (k + 1) _ (d + 1) (by omega) (by omega) (by rw [fSwO, if_pos c_21, ← hres_l2] at hres_l1; exact hres_l1) _ ls hS (lv_sub hl [2, 3, 1, 4, 0] rfl)
        | succ n2 ih2 =>
          intro j z hj hres_l2 locs ls hS hl
          refine lv_iload hx hb dX7_sumsWithout_43 (lv_at hl 7 rfl) ?_
          refine lv_iload_n hx hb dX7_sumsWithout_45 rfl (lv_at hl 3 rfl) ?_
          refine lv_icmp_ge (tgt := 87) hx hb dX7_sumsWithout_46 (by decide) (fun c_46 => ?_) (fun c_46 => ?_)
          · refine lv_iload hx hb dX7_sumsWithout_87 (lv_at hl 6 rfl) ?_
            refine lv_istore_n (lv' := [(2, .int z), (0, .int sums), (1, .int pls), (3, .int (fLen (d + 1))), (4, .int (nI k)), (5, .int (fNib 3160638497 (nI k))), (6, .int z), (7, .int (nI j))]) hx hb dX7_sumsWithout_89 rfl hl (by decide) rfl (fun ls hl => ?_)
            refine lv_iinc (v := nI (k + 1)) (lv' := [(4, .int (nI (k + 1))), (2, .int z), (0, .int sums), (1, .int pls), (3, .int (fLen (d + 1))), (5, .int (fNib 3160638497 (nI k))), (6, .int z), (7, .int (nI j))]) hx hb dX7_sumsWithout_90 hl (k := 4) rfl (nI_1 _) (by decide) rfl (fun ls hl => ?_)
            refine lv_goto (tgt := 7) hx hb dX7_sumsWithout_93 (by decide) ?_
            exact ih (k + 1) _ (d + 1) (by omega) (by omega) (by rw [fSwI, if_neg (Int32.not_lt.mpr c_46)] at hres_l2; rw [fSwO, if_pos c_21, ← hres_l2] at hres_l1; exact hres_l1) _ ls hS (lv_sub hl [2, 3, 1, 4, 0] rfl)
          · refine lv_iload hx hb dX7_sumsWithout_49 (lv_at hl 6 rfl) ?_
            refine lv_iload_n hx hb dX7_sumsWithout_51 rfl (lv_at hl 2 rfl) ?_
            refine lv_i2l hx hb dX7_sumsWithout_52 rfl ?_
            refine lv_iload hx hb dX7_sumsWithout_53 (lv_at hl 7 rfl) ?_
            refine lv_iconst (v := 1) hx hb dX7_sumsWithout_55 (by decide) ?_
            refine lv_iadd hx hb dX7_sumsWithout_56 ?_
            refine pu_calli (As := [.long q.toInt64, .int ((nI j) + 1)]) (rest := [.int z]) ⟨hx, hb, hml, hown, hts⟩ (c_X7_nibble l q.toInt64 ((nI j) + 1)) (va_cwS 2 hts gX7_sumsWithout_X7_nibble rfl rfl rfl (by decide +kernel) ⟨(Nat.le_of_ble_eq_true rfl), (Nat.le_of_ble_eq_true rfl)⟩) rfl hl.1 (lv_room (Nat.le_of_ble_eq_true rfl)) dX7_sumsWithout_57 ⟨Nat.zero_le _, Nat.zero_le _⟩ hS hA rfl (fun locs hS => ?_)
            refine lv_iload_n hx hb dX7_sumsWithout_60 rfl (lv_at hl 2 rfl) ?_
            refine lv_i2l hx hb dX7_sumsWithout_61 rfl ?_
            refine lv_iload hx hb dX7_sumsWithout_62 (lv_at hl 7 rfl) ?_
            refine pu_calli (As := [.long q.toInt64, .int (nI j)]) (rest := [.int (fNib q.toInt64 ((nI j) + 1)), .int z]) ⟨hx, hb, hml, hown, hts⟩ (c_X7_nibble l q.toInt64 (nI j)) (va_cwS 2 hts gX7_sumsWithout_X7_nibble rfl rfl rfl (by decide +kernel) ⟨(Nat.le_of_ble_eq_true rfl), (Nat.le_of_ble_eq_true rfl)⟩) rfl hl.1 (lv_room (Nat.le_of_ble_eq_true rfl)) dX7_sumsWithout_64 ⟨Nat.zero_le _, Nat.zero_le _⟩ hS hA rfl (fun locs hS => ?_)
            refine lv_iload hx hb dX7_sumsWithout_67 (lv_at hl 5 rfl) ?_
            refine pu_calli (As := [.int (fNib q.toInt64 (nI j)), .int (fNib 3160638497 (nI k))]) (rest := [.int (fNib q.toInt64 ((nI j) + 1)), .int z]) ⟨hx, hb, hml, hown, hts⟩ (c_X7_times l (fNib q.toInt64 (nI j)) (fNib 3160638497 (nI k))) (va_cwS 2 hts gX7_sumsWithout_X7_times rfl rfl rfl (by decide +kernel) ⟨(Nat.le_of_ble_eq_true rfl), (Nat.le_of_ble_eq_true rfl)⟩) rfl hl.1 (lv_room (Nat.le_of_ble_eq_true rfl)) dX7_sumsWithout_69 ⟨Nat.zero_le _, Nat.zero_le _⟩ hS hA rfl (fun locs hS => ?_)
            refine lv_ixor hx hb dX7_sumsWithout_72 ?_
            refine lv_iconst (v := 4) hx hb dX7_sumsWithout_73 (by decide) ?_
            refine lv_iload hx hb dX7_sumsWithout_74 (lv_at hl 7 rfl) ?_
            refine lv_imul hx hb dX7_sumsWithout_76 ?_
            refine lv_ishl hx hb dX7_sumsWithout_77 ?_
            refine lv_ior hx hb dX7_sumsWithout_78 ?_
            refine lv_istore (lv' := [(6, .int (z ||| (((fNib q.toInt64 ((nI j) + 1)) ^^^ (fTimes (fNib q.toInt64 (nI j)) (fNib 3160638497 (nI k)))) <<< ((4 * (nI j)) &&& 31)))), (0, .int sums), (1, .int pls), (2, .int q), (3, .int (fLen (d + 1))), (4, .int (nI k)), (5, .int (fNib 3160638497 (nI k))), (7, .int (nI j))]) hx hb dX7_sumsWithout_79 hl (by decide) rfl (fun ls hl => ?_)
            refine lv_iinc (v := nI (j + 1)) (lv' := [(7, .int (nI (j + 1))), (6, .int (z ||| (((fNib q.toInt64 ((nI j) + 1)) ^^^ (fTimes (fNib q.toInt64 (nI j)) (fNib 3160638497 (nI k)))) <<< ((4 * (nI j)) &&& 31)))), (0, .int sums), (1, .int pls), (2, .int q), (3, .int (fLen (d + 1))), (4, .int (nI k)), (5, .int (fNib 3160638497 (nI k)))]) hx hb dX7_sumsWithout_81 hl (k := 7) rfl (nI_1 _) (by decide) rfl (fun ls hl => ?_)
            refine lv_goto (tgt := 43) hx hb dX7_sumsWithout_84 (by decide) ?_
            exact ih2 (j + 1) _ (by omega) (by rw [fSwI, if_pos (Int32.not_le.mp c_46)] at hres_l2; exact hres_l2) _ ls hS (lv_sub hl [2, 3, 4, 5, 6, 7, 1, 0] rfl)
      refine lv_iload hx hb dX7_sumsWithout_7 (lv_at hl 4 rfl) ?_
      refine lv_bipush (v := 8) hx hb dX7_sumsWithout_9 (by decide) ?_
      refine lv_icmp_ge (tgt := 96) hx hb dX7_sumsWithout_11 (by decide) (fun c_11 => absurd c_11 (nI_ge (a := k) (b := 8) (by omega) (by omega))) (fun c_11 => ?_)
      refine lv_iload_n hx hb dX7_sumsWithout_14 rfl (lv_at hl 1 rfl) ?_
      refine lv_iload hx hb dX7_sumsWithout_15 (lv_at hl 4 rfl) ?_
      refine lv_ishr hx hb dX7_sumsWithout_17 ?_
      refine lv_iconst (v := 1) hx hb dX7_sumsWithout_18 (by decide) ?_
      refine lv_iand hx hb dX7_sumsWithout_19 ?_
      refine lv_iconst (v := 1) hx hb dX7_sumsWithout_20 (by decide) ?_
      refine lv_icmp_ne (tgt := 90) hx hb dX7_sumsWithout_21 (by decide) (fun c_21 => ?_) (fun c_21 => ?_)
      · refine lv_iinc (v := nI (k + 1)) (lv' := [(4, .int (nI (k + 1))), (0, .int sums), (1, .int pls), (2, .int q), (3, .int (fLen d))]) hx hb dX7_sumsWithout_90 hl (k := 4) rfl (nI_1 _) (by decide) rfl (fun ls hl => ?_)
        refine lv_goto (tgt := 7) hx hb dX7_sumsWithout_93 (by decide) ?_
        exact ih (k + 1) _ d (by omega) (by omega) (by rw [fSwO, if_neg c_21] at hres_l1; exact hres_l1) _ ls hS (lv_sub hl [1, 2, 3, 4, 0] rfl)
      · refine lv_iinc (v := (fLen d) + (-1)) (lv' := [(3, .int ((fLen d) + (-1))), (0, .int sums), (1, .int pls), (2, .int q), (4, .int (nI k))]) hx hb dX7_sumsWithout_24 hl (k := 3) rfl rfl (by decide) rfl (fun ls hl => ?_)
        refine lv_ldc2 (v := 3160638497) hx hb hown (hts (.constantLong RX7 46 3160638497) (by decide +kernel)) dX7_sumsWithout_27 ?_
        refine lv_iload hx hb dX7_sumsWithout_30 (lv_at hl 4 rfl) ?_
        refine pu_calli (As := [.long 3160638497, .int (nI k)]) (rest := []) ⟨hx, hb, hml, hown, hts⟩ (c_X7_nibble l 3160638497 (nI k)) (va_cwS 2 hts gX7_sumsWithout_X7_nibble rfl rfl rfl (by decide +kernel) ⟨(Nat.le_of_ble_eq_true rfl), (Nat.le_of_ble_eq_true rfl)⟩) rfl hl.1 (lv_room (Nat.le_of_ble_eq_true rfl)) dX7_sumsWithout_32 ⟨Nat.zero_le _, Nat.zero_le _⟩ hS hA rfl (fun locs hS => ?_)
        refine lv_istore (lv' := [(5, .int (fNib 3160638497 (nI k))), (3, .int ((fLen d) + (-1))), (0, .int sums), (1, .int pls), (2, .int q), (4, .int (nI k))]) hx hb dX7_sumsWithout_35 hl (by decide) rfl (fun ls hl => ?_)
        refine lv_iconst (v := 0) hx hb dX7_sumsWithout_37 (by decide) ?_
        refine lv_istore (lv' := [(6, .int 0), (5, .int (fNib 3160638497 (nI k))), (3, .int ((fLen d) + (-1))), (0, .int sums), (1, .int pls), (2, .int q), (4, .int (nI k))]) hx hb dX7_sumsWithout_38 hl (by decide) rfl (fun ls hl => ?_)
        refine lv_iconst (v := 0) hx hb dX7_sumsWithout_40 (by decide) ?_
        refine lv_istore (lv' := [(7, .int 0), (6, .int 0), (5, .int (fNib 3160638497 (nI k))), (3, .int ((fLen d) + (-1))), (0, .int sums), (1, .int pls), (2, .int q), (4, .int (nI k))]) hx hb dX7_sumsWithout_41 hl (by decide) rfl (fun ls hl => ?_)
        exact l2 c_21 4 0 0 rfl rfl _ ls hS (lv_sub hl [4, 5, 6, 3, 7, 2, 1, 0] rfl)
  refine lv_iload_n hx hb dX7_sumsWithout_0 rfl (lv_at hl 0 rfl) ?_
  refine lv_istore_n (lv' := [(2, .int sums), (0, .int sums), (1, .int pls)]) hx hb dX7_sumsWithout_1 rfl hl (by decide) rfl (fun ls hl => ?_)
  refine lv_iconst (v := 4) hx hb dX7_sumsWithout_2 (by decide) ?_
  refine lv_istore_n (lv' := [(3, .int 4), (2, .int sums), (0, .int sums), (1, .int pls)]) hx hb dX7_sumsWithout_3 rfl hl (by decide) rfl (fun ls hl => ?_)
  refine lv_iconst (v := 0) hx hb dX7_sumsWithout_4 (by decide) ?_
  refine lv_istore (lv' := [(4, .int 0), (3, .int 4), (2, .int sums), (0, .int sums), (1, .int pls)]) hx hb dX7_sumsWithout_5 hl (by decide) rfl (fun ls hl => ?_)
  exact l1 8 0 sums 0 rfl (Nat.le_refl 0) rfl _ ls hS (lv_sub hl [3, 4, 2, 1, 0] rfl)
set_option maxHeartbeats 4000000 in
set_option maxRecDepth 100000 in
theorem c_X7_filled (l : Launch) (w : Int64) (sums : Int32) (pls : Int32) : pc_l l yX7_filled wsX7_filled ({ frames := 2, cells := 0, slots := 0, locals := 50 } : Room) [.long w, .int sums, .int pls] (fFill w sums pls) := by
  intro H0
  refine Met.ofW (cc := cX7_filled) (maxL := 10) (ret := (some .long)) (by decide) rfl ?_
  intro p e s m args below meth c s₁ B hml hv
  obtain ⟨rfl, rfl⟩ := hv
  have hx := B.exec
  have hb := B.bytes
  have hr := B.returns
  have hts := atoms_spec (ws := wsX7_filled) B.pre
  have hown : s.vm.findClass RX7 = some m.cls := findClass_of_methodNamed B.named
  have hlocks := B.notSynchronized
  have hS : va_S (fun q => s.heap.size ≤ q) s.heap s.heap [] := va_S.rf
  have hA : ∀ q : Nat, s.heap.size ≤ q → (fun q : Nat => s.heap.size ≤ q) q := fun _ h => h
  have hl := lv_entry ([.long w, .int sums, .int pls]) (n := 10) (Nat.le_of_ble_eq_true rfl)
  rw [lg_entry_eq]
  generalize (lg_sl ([.long w, .int sums, .int pls]) ++ List.replicate (10 - (lg_sl ([.long w, .int sums, .int pls])).length) Slot.unset).toArray = ls at hl ⊢
  have hl : lv_has ls 10 [(0, .long w), (2, .int sums), (3, .int pls)] := hl
  have l1 : ∀ (n k : Nat) (q : Int64), k + n = 8 → fFi sums pls n k q = fFill w sums pls → ∀ (locs : List Loc) (ls : Array Slot), va_S (fun q => s.heap.size ≤ q) s.heap s.heap locs → lv_has ls 10 [(0, .long w), (2, .int sums), (3, .int pls), (4, .long q), (6, .int (nI k))] → pW_l p l e wsX7_filled ({ frames := 2, cells := 0, slots := 0, locals := 50 } : Room) s m ([.long w, .int sums, .int pls] : List Value).toArray below meth c (fFill w sums pls) locs (F0 m 6 ls []) := by
    intro n
    induction n with
    | zero =>
      intro k q hk_l1  hres_l1 locs ls hS hl
      obtain rfl : k = 8 := by omega
      refine lv_iload hx hb dX7_filled_6 (lv_at hl 4 rfl) ?_
      refine lv_bipush (v := 8) hx hb dX7_filled_8 (by decide) ?_
      refine lv_icmp_ge (tgt := 85) hx hb dX7_filled_10 (by decide) (fun c_10 => ?_) (fun c_10 => absurd c_10 (by decide))
      refine lv_lload hx hb dX7_filled_85 (lv_at hl 3 rfl) ?_
      exact W.lret (v := q) hx hb hr (fun t ht hW => ⟨⟨q, (), rfl, hres_l1, ht⟩, hS.F ht⟩) hS.2.2 dX7_filled_87
    | succ n ih =>
      intro k q hk_l1  hres_l1 locs ls hS hl
      refine lv_iload hx hb dX7_filled_6 (lv_at hl 4 rfl) ?_
      refine lv_bipush (v := 8) hx hb dX7_filled_8 (by decide) ?_
      refine lv_icmp_ge (tgt := 85) hx hb dX7_filled_10 (by decide) (fun c_10 => absurd c_10 (nI_ge (a := k) (b := 8) (by omega) (by omega))) (fun c_10 => ?_)
      refine lv_iload_n hx hb dX7_filled_13 rfl (lv_at hl 2 rfl) ?_
      refine lv_iload hx hb dX7_filled_14 (lv_at hl 4 rfl) ?_
      refine lv_ishr hx hb dX7_filled_16 ?_
      refine lv_iconst (v := 1) hx hb dX7_filled_17 (by decide) ?_
      refine lv_iand hx hb dX7_filled_18 ?_
      refine lv_iconst (v := 1) hx hb dX7_filled_19 (by decide) ?_
      refine lv_icmp_ne (tgt := 79) hx hb dX7_filled_20 (by decide) (fun c_20 => ?_) (fun c_20 => ?_)
      · refine lv_iinc (v := nI (k + 1)) (lv' := [(6, .int (nI (k + 1))), (0, .long w), (2, .int sums), (3, .int pls), (4, .long q)]) hx hb dX7_filled_79 hl (k := 4) rfl (nI_1 _) (by decide) rfl (fun ls hl => ?_)
        refine lv_goto (tgt := 6) hx hb dX7_filled_82 (by decide) ?_
        exact ih (k + 1) _ (by omega) (by rw [fFi, if_neg c_20] at hres_l1; exact hres_l1) _ ls hS (lv_sub hl [1, 2, 3, 4, 0] rfl)
      · refine lv_iload_n hx hb dX7_filled_23 rfl (lv_at hl 2 rfl) ?_
        refine lv_iconst (v := 1) hx hb dX7_filled_24 (by decide) ?_
        refine lv_iload hx hb dX7_filled_25 (lv_at hl 4 rfl) ?_
        refine lv_ishl hx hb dX7_filled_27 ?_
        refine lv_iconst (v := (-1)) hx hb dX7_filled_28 (by decide) ?_
        refine lv_ixor hx hb dX7_filled_29 ?_
        refine lv_iand hx hb dX7_filled_30 ?_
        refine lv_istore (lv' := [(7, .int (pls &&& (((1 : Int32) <<< ((nI k) &&& 31)) ^^^ (-1)))), (0, .long w), (2, .int sums), (3, .int pls), (4, .long q), (6, .int (nI k))]) hx hb dX7_filled_31 hl (by decide) rfl (fun ls hl => ?_)
        refine lv_iload_n hx hb dX7_filled_33 rfl (lv_at hl 2 rfl) ?_
        refine lv_iload hx hb dX7_filled_34 (lv_at hl 0 rfl) ?_
        refine pu_calli (As := [.int sums, .int (pls &&& (((1 : Int32) <<< ((nI k) &&& 31)) ^^^ (-1)))]) (rest := []) ⟨hx, hb, hml, hown, hts⟩ (c_X7_sumsWithout l sums (pls &&& (((1 : Int32) <<< ((nI k) &&& 31)) ^^^ (-1)))) (va_cwS 2 hts gX7_filled_X7_sumsWithout rfl rfl rfl (by decide +kernel) ⟨(Nat.le_of_ble_eq_true rfl), (Nat.le_of_ble_eq_true rfl)⟩) rfl hl.1 (lv_room (Nat.le_of_ble_eq_true rfl)) dX7_filled_36 ⟨Nat.zero_le _, Nat.zero_le _⟩ hS hA rfl (fun locs hS => ?_)
        refine lv_bipush (v := 15) hx hb dX7_filled_39 (by decide) ?_
        refine lv_iand hx hb dX7_filled_41 ?_
        refine lv_istore (lv' := [(8, .int ((fSw sums (pls &&& (((1 : Int32) <<< ((nI k) &&& 31)) ^^^ (-1)))) &&& 15)), (7, .int (pls &&& (((1 : Int32) <<< ((nI k) &&& 31)) ^^^ (-1)))), (0, .long w), (2, .int sums), (3, .int pls), (4, .long q), (6, .int (nI k))]) hx hb dX7_filled_42 hl (by decide) rfl (fun ls hl => ?_)
        refine lv_lconst (v := 1) hx hb dX7_filled_44 (by decide) ?_
        refine lv_iconst (v := 4) hx hb dX7_filled_45 (by decide) ?_
        refine lv_iload hx hb dX7_filled_46 (lv_at hl 6 rfl) ?_
        refine lv_imul hx hb dX7_filled_48 ?_
        refine lv_lshl hx hb dX7_filled_49 rfl ?_
        refine pu_calli (As := [.long (1 <<< ((4 * (nI k)).toInt64 &&& 63))]) (rest := []) ⟨hx, hb, hml, hown, hts⟩ (c_X7_sumsOf l (1 <<< ((4 * (nI k)).toInt64 &&& 63))) (va_cwS 1 hts gX7_filled_X7_sumsOf rfl rfl rfl (by decide +kernel) ⟨(Nat.le_of_ble_eq_true rfl), (Nat.le_of_ble_eq_true rfl)⟩) rfl hl.1 (lv_room (Nat.le_of_ble_eq_true rfl)) dX7_filled_50 ⟨Nat.zero_le _, Nat.zero_le _⟩ hS hA rfl (fun locs hS => ?_)
        refine lv_iload hx hb dX7_filled_53 (lv_at hl 1 rfl) ?_
        refine pu_calli (As := [.int (fSums (1 <<< ((4 * (nI k)).toInt64 &&& 63))), .int (pls &&& (((1 : Int32) <<< ((nI k) &&& 31)) ^^^ (-1)))]) (rest := []) ⟨hx, hb, hml, hown, hts⟩ (c_X7_sumsWithout l (fSums (1 <<< ((4 * (nI k)).toInt64 &&& 63))) (pls &&& (((1 : Int32) <<< ((nI k) &&& 31)) ^^^ (-1)))) (va_cwS 2 hts gX7_filled_X7_sumsWithout rfl rfl rfl (by decide +kernel) ⟨(Nat.le_of_ble_eq_true rfl), (Nat.le_of_ble_eq_true rfl)⟩) rfl hl.1 (lv_room (Nat.le_of_ble_eq_true rfl)) dX7_filled_55 ⟨Nat.zero_le _, Nat.zero_le _⟩ hS hA rfl (fun locs hS => ?_)
        refine lv_bipush (v := 15) hx hb dX7_filled_58 (by decide) ?_
        refine lv_iand hx hb dX7_filled_60 ?_
        refine lv_istore (lv' := [(9, .int ((fSw (fSums (1 <<< ((4 * (nI k)).toInt64 &&& 63))) (pls &&& (((1 : Int32) <<< ((nI k) &&& 31)) ^^^ (-1)))) &&& 15)), (8, .int ((fSw sums (pls &&& (((1 : Int32) <<< ((nI k) &&& 31)) ^^^ (-1)))) &&& 15)), (7, .int (pls &&& (((1 : Int32) <<< ((nI k) &&& 31)) ^^^ (-1)))), (0, .long w), (2, .int sums), (3, .int pls), (4, .long q), (6, .int (nI k))]) hx hb dX7_filled_61 hl (by decide) rfl (fun ls hl => ?_)
        refine lv_lload hx hb dX7_filled_63 (lv_at hl 6 rfl) ?_
        refine lv_iload hx hb dX7_filled_65 (lv_at hl 7 rfl) ?_
        refine lv_iload hx hb dX7_filled_67 (lv_at hl 1 rfl) ?_
        refine lv_iload hx hb dX7_filled_69 (lv_at hl 0 rfl) ?_
        refine pu_calli (As := [.int ((fSw sums (pls &&& (((1 : Int32) <<< ((nI k) &&& 31)) ^^^ (-1)))) &&& 15), .int ((fSw (fSums (1 <<< ((4 * (nI k)).toInt64 &&& 63))) (pls &&& (((1 : Int32) <<< ((nI k) &&& 31)) ^^^ (-1)))) &&& 15)]) (rest := [.int (nI k), .long q]) ⟨hx, hb, hml, hown, hts⟩ (c_X7_quotient l ((fSw sums (pls &&& (((1 : Int32) <<< ((nI k) &&& 31)) ^^^ (-1)))) &&& 15) ((fSw (fSums (1 <<< ((4 * (nI k)).toInt64 &&& 63))) (pls &&& (((1 : Int32) <<< ((nI k) &&& 31)) ^^^ (-1)))) &&& 15)) (va_cwS 2 hts gX7_filled_X7_quotient rfl rfl rfl (by decide +kernel) ⟨(Nat.le_of_ble_eq_true rfl), (Nat.le_of_ble_eq_true rfl)⟩) rfl hl.1 (lv_room (Nat.le_of_ble_eq_true rfl)) dX7_filled_71 ⟨Nat.zero_le _, Nat.zero_le _⟩ hS hA rfl (fun locs hS => ?_)
        refine pu_calll (As := [.long q, .int (nI k), .int (fQuot ((fSw sums (pls &&& (((1 : Int32) <<< ((nI k) &&& 31)) ^^^ (-1)))) &&& 15) ((fSw (fSums (1 <<< ((4 * (nI k)).toInt64 &&& 63))) (pls &&& (((1 : Int32) <<< ((nI k) &&& 31)) ^^^ (-1)))) &&& 15))]) (rest := []) ⟨hx, hb, hml, hown, hts⟩ (c_X7_turned l q (nI k) (fQuot ((fSw sums (pls &&& (((1 : Int32) <<< ((nI k) &&& 31)) ^^^ (-1)))) &&& 15) ((fSw (fSums (1 <<< ((4 * (nI k)).toInt64 &&& 63))) (pls &&& (((1 : Int32) <<< ((nI k) &&& 31)) ^^^ (-1)))) &&& 15))) (va_cwS 3 hts gX7_filled_X7_turned rfl rfl rfl (by decide +kernel) ⟨(Nat.le_of_ble_eq_true rfl), (Nat.le_of_ble_eq_true rfl)⟩) rfl hl.1 (lv_room (Nat.le_of_ble_eq_true rfl)) dX7_filled_74 ⟨Nat.zero_le _, Nat.zero_le _⟩ hS hA rfl (fun locs hS => ?_)
        refine lv_lstore (lv' := [(4, .long (fTurn q (nI k) (fQuot ((fSw sums (pls &&& (((1 : Int32) <<< ((nI k) &&& 31)) ^^^ (-1)))) &&& 15) ((fSw (fSums (1 <<< ((4 * (nI k)).toInt64 &&& 63))) (pls &&& (((1 : Int32) <<< ((nI k) &&& 31)) ^^^ (-1)))) &&& 15)))), (9, .int ((fSw (fSums (1 <<< ((4 * (nI k)).toInt64 &&& 63))) (pls &&& (((1 : Int32) <<< ((nI k) &&& 31)) ^^^ (-1)))) &&& 15)), (8, .int ((fSw sums (pls &&& (((1 : Int32) <<< ((nI k) &&& 31)) ^^^ (-1)))) &&& 15)), (7, .int (pls &&& (((1 : Int32) <<< ((nI k) &&& 31)) ^^^ (-1)))), (0, .long w), (2, .int sums), (3, .int pls), (6, .int (nI k))]) hx hb dX7_filled_77 hl (by decide) rfl (fun ls hl => ?_)
        refine lv_iinc (v := nI (k + 1)) (lv' := [(6, .int (nI (k + 1))), (4, .long (fTurn q (nI k) (fQuot ((fSw sums (pls &&& (((1 : Int32) <<< ((nI k) &&& 31)) ^^^ (-1)))) &&& 15) ((fSw (fSums (1 <<< ((4 * (nI k)).toInt64 &&& 63))) (pls &&& (((1 : Int32) <<< ((nI k) &&& 31)) ^^^ (-1)))) &&& 15)))), (9, .int ((fSw (fSums (1 <<< ((4 * (nI k)).toInt64 &&& 63))) (pls &&& (((1 : Int32) <<< ((nI k) &&& 31)) ^^^ (-1)))) &&& 15)), (8, .int ((fSw sums (pls &&& (((1 : Int32) <<< ((nI k) &&& 31)) ^^^ (-1)))) &&& 15)), (7, .int (pls &&& (((1 : Int32) <<< ((nI k) &&& 31)) ^^^ (-1)))), (0, .long w), (2, .int sums), (3, .int pls)]) hx hb dX7_filled_79 hl (k := 7) rfl (nI_1 _) (by decide) rfl (fun ls hl => ?_)
        refine lv_goto (tgt := 6) hx hb dX7_filled_82 (by decide) ?_
        exact ih (k + 1) _ (by omega) (by rw [fFi, if_pos c_20] at hres_l1; exact hres_l1) _ ls hS (lv_sub hl [5, 6, 7, 1, 0] rfl)
  refine lv_lload_n hx hb dX7_filled_0 rfl (lv_at hl 0 rfl) ?_
  refine lv_lstore (lv' := [(4, .long w), (0, .long w), (2, .int sums), (3, .int pls)]) hx hb dX7_filled_1 hl (by decide) rfl (fun ls hl => ?_)
  refine lv_iconst (v := 0) hx hb dX7_filled_3 (by decide) ?_
  refine lv_istore (lv' := [(6, .int 0), (4, .long w), (0, .long w), (2, .int sums), (3, .int pls)]) hx hb dX7_filled_4 hl (by decide) rfl (fun ls hl => ?_)
  exact l1 8 0 w rfl rfl _ ls hS (lv_sub hl [2, 3, 4, 1, 0] rfl)
set_option maxHeartbeats 4000000 in
set_option maxRecDepth 100000 in
theorem c_X7_of (l : Launch) (v : Int32) : pc_l l yX7_of wsX7_of ({ frames := 3, cells := 0, slots := 0, locals := 79 } : Room) [.int v] (fOf v) := by
  intro H0
  refine Met.ofW (cc := cX7_of) (maxL := 1) (ret := (some .long)) (by decide) rfl ?_
  intro p e s m args below meth c s₁ B hml hv
  obtain ⟨rfl, rfl⟩ := hv
  have hx := B.exec
  have hb := B.bytes
  have hr := B.returns
  have hts := atoms_spec (ws := wsX7_of) B.pre
  have hown : s.vm.findClass RX7 = some m.cls := findClass_of_methodNamed B.named
  have hlocks := B.notSynchronized
  have hS : va_S (fun q => s.heap.size ≤ q) s.heap s.heap [] := va_S.rf
  have hA : ∀ q : Nat, s.heap.size ≤ q → (fun q : Nat => s.heap.size ≤ q) q := fun _ h => h
  have hl := lv_entry ([.int v]) (n := 1) (Nat.le_of_ble_eq_true rfl)
  rw [lg_entry_eq]
  generalize (lg_sl ([.int v]) ++ List.replicate (1 - (lg_sl ([.int v])).length) Slot.unset).toArray = ls at hl ⊢
  have hl : lv_has ls 1 [(0, .int v)] := hl
  refine lv_iload_n hx hb dX7_of_0 rfl (lv_at hl 0 rfl) ?_
  refine lv_i2l hx hb dX7_of_1 rfl ?_
  refine lv_iload_n hx hb dX7_of_2 rfl (lv_at hl 0 rfl) ?_
  refine lv_i2l hx hb dX7_of_3 rfl ?_
  refine pu_calli (As := [.long v.toInt64]) (rest := [.long v.toInt64]) ⟨hx, hb, hml, hown, hts⟩ (c_X7_sumsOf l v.toInt64) (va_cwS 1 hts gX7_of_X7_sumsOf rfl rfl rfl (by decide +kernel) ⟨(Nat.le_of_ble_eq_true rfl), (Nat.le_of_ble_eq_true rfl)⟩) rfl hl.1 (lv_room (Nat.le_of_ble_eq_true rfl)) dX7_of_4 ⟨Nat.zero_le _, Nat.zero_le _⟩ hS hA rfl (fun locs hS => ?_)
  refine lv_sipush (v := 240) hx hb dX7_of_7 (by decide) ?_
  refine pu_calll (As := [.long v.toInt64, .int (fSums v.toInt64), .int 240]) (rest := []) ⟨hx, hb, hml, hown, hts⟩ (c_X7_filled l v.toInt64 (fSums v.toInt64) 240) (va_cwS 3 hts gX7_of_X7_filled rfl rfl rfl (by decide +kernel) ⟨(Nat.le_of_ble_eq_true rfl), (Nat.le_of_ble_eq_true rfl)⟩) rfl hl.1 (lv_room (Nat.le_of_ble_eq_true rfl)) dX7_of_10 ⟨Nat.zero_le _, Nat.zero_le _⟩ hS hA rfl (fun locs hS => ?_)
  exact W.lret (v := (fFill v.toInt64 (fSums v.toInt64) 240)) hx hb hr (fun t ht hW => ⟨⟨(fFill v.toInt64 (fSums v.toInt64) 240), (), rfl, rfl, ht⟩, hS.F ht⟩) hS.2.2 dX7_of_13
set_option maxHeartbeats 4000000 in
set_option maxRecDepth 100000 in
theorem c_J6_bitCount_0f7a4 (l : Launch) (x : Int32) : pc_i l yJ6_bitCount_0f7a4 wsJ6_bitCount_0f7a4 ({ frames := 0, cells := 0, slots := 0, locals := 0 } : Room) [.int x] (fBit x) := by
  intro H0
  refine Met.ofW (cc := cJ6_bitCount_0f7a4) (maxL := 1) (ret := (some .int)) (by decide) rfl ?_
  intro p e s m args below meth c s₁ B hml hv
  obtain ⟨rfl, rfl⟩ := hv
  have hx := B.exec
  have hb := B.bytes
  have hr := B.returns
  have hts := atoms_spec (ws := wsJ6_bitCount_0f7a4) B.pre
  have hown : s.vm.findClass RJ6 = some m.cls := findClass_of_methodNamed B.named
  have hlocks := B.notSynchronized
  have hS : va_S (fun q => s.heap.size ≤ q) s.heap s.heap [] := va_S.rf
  have hA : ∀ q : Nat, s.heap.size ≤ q → (fun q : Nat => s.heap.size ≤ q) q := fun _ h => h
  have hl := lv_entry ([.int x]) (n := 1) (Nat.le_of_ble_eq_true rfl)
  rw [lg_entry_eq]
  generalize (lg_sl ([.int x]) ++ List.replicate (1 - (lg_sl ([.int x])).length) Slot.unset).toArray = ls at hl ⊢
  have hl : lv_has ls 1 [(0, .int x)] := hl
  refine lv_iload_n hx hb dJ6_bitCount_0f7a4_0 rfl (lv_at hl 0 rfl) ?_
  refine lv_iload_n hx hb dJ6_bitCount_0f7a4_1 rfl (lv_at hl 0 rfl) ?_
  refine lv_iconst (v := 1) hx hb dJ6_bitCount_0f7a4_2 (by decide) ?_
  refine lv_iushr hx hb dJ6_bitCount_0f7a4_3 rfl ?_
  refine lv_ldcw (v := 1431655765) hx hb hown (hts (.constant RJ6 265 1431655765) (by decide +kernel)) dJ6_bitCount_0f7a4_4 ?_
  refine lv_iand hx hb dJ6_bitCount_0f7a4_7 ?_
  refine lv_isub hx hb dJ6_bitCount_0f7a4_8 ?_
  refine lv_topi (fun f8 ef8 => ?_)
  refine lv_istore_n (lv' := [(0, .int f8)]) hx hb dJ6_bitCount_0f7a4_9 rfl hl (by decide) rfl (fun ls hl => ?_)
  refine lv_iload_n hx hb dJ6_bitCount_0f7a4_10 rfl (lv_at hl 0 rfl) ?_
  refine lv_ldcw (v := 858993459) hx hb hown (hts (.constant RJ6 266 858993459) (by decide +kernel)) dJ6_bitCount_0f7a4_11 ?_
  refine lv_iand hx hb dJ6_bitCount_0f7a4_14 ?_
  refine lv_iload_n hx hb dJ6_bitCount_0f7a4_15 rfl (lv_at hl 0 rfl) ?_
  refine lv_iconst (v := 2) hx hb dJ6_bitCount_0f7a4_16 (by decide) ?_
  refine lv_iushr hx hb dJ6_bitCount_0f7a4_17 rfl ?_
  refine lv_ldcw (v := 858993459) hx hb hown (hts (.constant RJ6 266 858993459) (by decide +kernel)) dJ6_bitCount_0f7a4_18 ?_
  refine lv_iand hx hb dJ6_bitCount_0f7a4_21 ?_
  refine lv_iadd hx hb dJ6_bitCount_0f7a4_22 ?_
  refine lv_topi (fun f22 ef22 => ?_)
  refine lv_istore_n (lv' := [(0, .int f22)]) hx hb dJ6_bitCount_0f7a4_23 rfl hl (by decide) rfl (fun ls hl => ?_)
  refine lv_iload_n hx hb dJ6_bitCount_0f7a4_24 rfl (lv_at hl 0 rfl) ?_
  refine lv_iload_n hx hb dJ6_bitCount_0f7a4_25 rfl (lv_at hl 0 rfl) ?_
  refine lv_iconst (v := 4) hx hb dJ6_bitCount_0f7a4_26 (by decide) ?_
  refine lv_iushr hx hb dJ6_bitCount_0f7a4_27 rfl ?_
  refine lv_iadd hx hb dJ6_bitCount_0f7a4_28 ?_
  refine lv_ldcw (v := 252645135) hx hb hown (hts (.constant RJ6 267 252645135) (by decide +kernel)) dJ6_bitCount_0f7a4_29 ?_
  refine lv_iand hx hb dJ6_bitCount_0f7a4_32 ?_
  refine lv_topi (fun f32 ef32 => ?_)
  refine lv_istore_n (lv' := [(0, .int f32)]) hx hb dJ6_bitCount_0f7a4_33 rfl hl (by decide) rfl (fun ls hl => ?_)
  refine lv_iload_n hx hb dJ6_bitCount_0f7a4_34 rfl (lv_at hl 0 rfl) ?_
  refine lv_iload_n hx hb dJ6_bitCount_0f7a4_35 rfl (lv_at hl 0 rfl) ?_
  refine lv_bipush (v := 8) hx hb dJ6_bitCount_0f7a4_36 (by decide) ?_
  refine lv_iushr hx hb dJ6_bitCount_0f7a4_38 rfl ?_
  refine lv_iadd hx hb dJ6_bitCount_0f7a4_39 ?_
  refine lv_topi (fun f39 ef39 => ?_)
  refine lv_istore_n (lv' := [(0, .int f39)]) hx hb dJ6_bitCount_0f7a4_40 rfl hl (by decide) rfl (fun ls hl => ?_)
  refine lv_iload_n hx hb dJ6_bitCount_0f7a4_41 rfl (lv_at hl 0 rfl) ?_
  refine lv_iload_n hx hb dJ6_bitCount_0f7a4_42 rfl (lv_at hl 0 rfl) ?_
  refine lv_bipush (v := 16) hx hb dJ6_bitCount_0f7a4_43 (by decide) ?_
  refine lv_iushr hx hb dJ6_bitCount_0f7a4_45 rfl ?_
  refine lv_iadd hx hb dJ6_bitCount_0f7a4_46 ?_
  refine lv_topi (fun f46 ef46 => ?_)
  refine lv_istore_n (lv' := [(0, .int f46)]) hx hb dJ6_bitCount_0f7a4_47 rfl hl (by decide) rfl (fun ls hl => ?_)
  refine lv_iload_n hx hb dJ6_bitCount_0f7a4_48 rfl (lv_at hl 0 rfl) ?_
  refine lv_bipush (v := 63) hx hb dJ6_bitCount_0f7a4_49 (by decide) ?_
  refine lv_iand hx hb dJ6_bitCount_0f7a4_51 ?_
  exact W.iret (v := (f46 &&& 63)) hx hb hr (fun t ht hW => ⟨⟨(f46 &&& 63), (), rfl, (by rw [ef46, ef39, ef32, ef22, ef8]; rfl), ht⟩, hS.F ht⟩) hS.2.2 dJ6_bitCount_0f7a4_52
set_option maxHeartbeats 4000000 in
set_option maxRecDepth 100000 in
theorem c_X7_repaired (l : Launch) (w : Int64) (wk : Int32) : pc_l l yX7_repaired wsX7_repaired ({ frames := 3, cells := 0, slots := 0, locals := 79 } : Room) [.long w, .int wk] (fRep w wk) := by
  intro H0
  refine Met.ofW (cc := cX7_repaired) (maxL := 7) (ret := (some .long)) (by decide) rfl ?_
  intro p e s m args below meth c s₁ B hml hv
  obtain ⟨rfl, rfl⟩ := hv
  have hx := B.exec
  have hb := B.bytes
  have hr := B.returns
  have hts := atoms_spec (ws := wsX7_repaired) B.pre
  have hown : s.vm.findClass RX7 = some m.cls := findClass_of_methodNamed B.named
  have hlocks := B.notSynchronized
  have hS : va_S (fun q => s.heap.size ≤ q) s.heap s.heap [] := va_S.rf
  have hA : ∀ q : Nat, s.heap.size ≤ q → (fun q : Nat => s.heap.size ≤ q) q := fun _ h => h
  have hl := lv_entry ([.long w, .int wk]) (n := 7) (Nat.le_of_ble_eq_true rfl)
  rw [lg_entry_eq]
  generalize (lg_sl ([.long w, .int wk]) ++ List.replicate (7 - (lg_sl ([.long w, .int wk])).length) Slot.unset).toArray = ls at hl ⊢
  have hl : lv_has ls 7 [(0, .long w), (2, .int wk)] := hl
  have l1 : ∀ (n k : Nat) , k + n = 256 → fRe w (fSums w) wk (fBit wk) n k = fRep w wk → ∀ (locs : List Loc) (ls : Array Slot), va_S (fun q => s.heap.size ≤ q) s.heap s.heap locs → lv_has ls 7 [(0, .long w), (2, .int wk), (3, .int (fSums w)), (4, .int (fBit wk)), (5, .int (nI k))] → pW_l p l e wsX7_repaired ({ frames := 3, cells := 0, slots := 0, locals := 79 } : Room) s m ([.long w, .int wk] : List Value).toArray below meth c (fRep w wk) locs (F0 m 14 ls []) := by
    intro n
    induction n with
    | zero =>
      intro k  hk_l1  hres_l1 locs ls hS hl
      obtain rfl : k = 256 := by omega
      refine lv_iload hx hb dX7_repaired_14 (lv_at hl 4 rfl) ?_
      refine lv_sipush (v := 256) hx hb dX7_repaired_16 (by decide) ?_
      refine lv_icmp_ge (tgt := 82) hx hb dX7_repaired_19 (by decide) (fun c_19 => ?_) (fun c_19 => absurd c_19 (by decide))
      refine lv_ldc2 (v := (-1)) hx hb hown (hts (.constantLong RX7 35 (-1)) (by decide +kernel)) dX7_repaired_82 ?_
      exact W.lret (v := (-1)) hx hb hr (fun t ht hW => ⟨⟨(-1), (), rfl, hres_l1, ht⟩, hS.F ht⟩) hS.2.2 dX7_repaired_85
    | succ n ih =>
      intro k  hk_l1  hres_l1 locs ls hS hl
      refine lv_iload hx hb dX7_repaired_14 (lv_at hl 4 rfl) ?_
      refine lv_sipush (v := 256) hx hb dX7_repaired_16 (by decide) ?_
      refine lv_icmp_ge (tgt := 82) hx hb dX7_repaired_19 (by decide) (fun c_19 => absurd c_19 (nI_ge (a := k) (b := 256) (by omega) (by omega))) (fun c_19 => ?_)
      refine lv_iconst (v := 2) hx hb dX7_repaired_22 (by decide) ?_
      refine lv_iload hx hb dX7_repaired_23 (lv_at hl 4 rfl) ?_
      refine pu_calli (As := [.int (nI k)]) (rest := [.int 2]) ⟨hx, hb, hml, hown, hts⟩ (c_J6_bitCount_0f7a4 l (nI k)) (va_cwS 1 hts gX7_repaired_J6_bitCount_0f7a4 rfl rfl rfl (by decide +kernel) ⟨(Nat.le_of_ble_eq_true rfl), (Nat.le_of_ble_eq_true rfl)⟩) rfl hl.1 (lv_room (Nat.le_of_ble_eq_true rfl)) dX7_repaired_25 ⟨Nat.zero_le _, Nat.zero_le _⟩ hS hA rfl (fun locs hS => ?_)
      refine lv_imul hx hb dX7_repaired_28 ?_
      refine lv_iload hx hb dX7_repaired_29 (lv_at hl 3 rfl) ?_
      refine lv_iadd hx hb dX7_repaired_31 ?_
      refine lv_iconst (v := 4) hx hb dX7_repaired_32 (by decide) ?_
      refine lv_icmp_gt (tgt := 40) hx hb dX7_repaired_33 (by decide) (fun c_33 => ?_) (fun c_33 => ?_)
      · refine lv_iconst (v := 0) hx hb dX7_repaired_40 (by decide) ?_
        refine lv_istore (lv' := [(6, .int 0), (0, .long w), (2, .int wk), (3, .int (fSums w)), (4, .int (fBit wk)), (5, .int (nI k))]) hx hb dX7_repaired_41 hl (by decide) rfl (fun ls hl => ?_)
        refine lv_iload hx hb dX7_repaired_43 (lv_at hl 0 rfl) ?_
        refine lv_if_eq (tgt := 76) hx hb dX7_repaired_45 (by decide) (fun c_45 => ?_) (fun c_45 => absurd c_45 (by decide))
        refine lv_iinc (v := nI (k + 1)) (lv' := [(5, .int (nI (k + 1))), (6, .int 0), (0, .long w), (2, .int wk), (3, .int (fSums w)), (4, .int (fBit wk))]) hx hb dX7_repaired_76 hl (k := 5) rfl (nI_1 _) (by decide) rfl (fun ls hl => ?_)
        refine lv_goto (tgt := 14) hx hb dX7_repaired_79 (by decide) ?_
        exact ih (k + 1) (by omega) (by rw [fRe, if_neg (fun h => absurd h.1 (Int32.not_le.mpr c_33))] at hres_l1; exact hres_l1) _ ls hS (lv_sub hl [2, 3, 4, 5, 0] rfl)
      · refine lv_iconst (v := 1) hx hb dX7_repaired_36 (by decide) ?_
        refine lv_goto (tgt := 41) hx hb dX7_repaired_37 (by decide) ?_
        refine lv_istore (lv' := [(6, .int 1), (0, .long w), (2, .int wk), (3, .int (fSums w)), (4, .int (fBit wk)), (5, .int (nI k))]) hx hb dX7_repaired_41 hl (by decide) rfl (fun ls hl => ?_)
        refine lv_iload hx hb dX7_repaired_43 (lv_at hl 0 rfl) ?_
        refine lv_if_eq (tgt := 76) hx hb dX7_repaired_45 (by decide) (fun c_45 => absurd c_45 (by decide)) (fun c_45 => ?_)
        refine lv_iload hx hb dX7_repaired_48 (lv_at hl 5 rfl) ?_
        refine lv_iload_n hx hb dX7_repaired_50 rfl (lv_at hl 2 rfl) ?_
        refine lv_iand hx hb dX7_repaired_51 ?_
        refine lv_if_ne (tgt := 76) hx hb dX7_repaired_52 (by decide) (fun c_52 => ?_) (fun c_52 => ?_)
        · refine lv_iinc (v := nI (k + 1)) (lv' := [(5, .int (nI (k + 1))), (6, .int 1), (0, .long w), (2, .int wk), (3, .int (fSums w)), (4, .int (fBit wk))]) hx hb dX7_repaired_76 hl (k := 5) rfl (nI_1 _) (by decide) rfl (fun ls hl => ?_)
          refine lv_goto (tgt := 14) hx hb dX7_repaired_79 (by decide) ?_
          exact ih (k + 1) (by omega) (by rw [fRe, if_neg (fun h => c_52 h.2.1)] at hres_l1; exact hres_l1) _ ls hS (lv_sub hl [2, 3, 4, 5, 0] rfl)
        · refine lv_iload_n hx hb dX7_repaired_55 rfl (lv_at hl 3 rfl) ?_
          refine lv_iload hx hb dX7_repaired_56 (lv_at hl 5 rfl) ?_
          refine lv_iload_n hx hb dX7_repaired_58 rfl (lv_at hl 2 rfl) ?_
          refine lv_ior hx hb dX7_repaired_59 ?_
          refine pu_calli (As := [.int (fSums w), .int ((nI k) ||| wk)]) (rest := []) ⟨hx, hb, hml, hown, hts⟩ (c_X7_sumsWithout l (fSums w) ((nI k) ||| wk)) (va_cwS 2 hts gX7_repaired_X7_sumsWithout rfl rfl rfl (by decide +kernel) ⟨(Nat.le_of_ble_eq_true rfl), (Nat.le_of_ble_eq_true rfl)⟩) rfl hl.1 (lv_room (Nat.le_of_ble_eq_true rfl)) dX7_repaired_60 ⟨Nat.zero_le _, Nat.zero_le _⟩ hS hA rfl (fun locs hS => ?_)
          refine lv_if_ne (tgt := 76) hx hb dX7_repaired_63 (by decide) (fun c_63 => ?_) (fun c_63 => ?_)
          · refine lv_iinc (v := nI (k + 1)) (lv' := [(5, .int (nI (k + 1))), (6, .int 1), (0, .long w), (2, .int wk), (3, .int (fSums w)), (4, .int (fBit wk))]) hx hb dX7_repaired_76 hl (k := 5) rfl (nI_1 _) (by decide) rfl (fun ls hl => ?_)
            refine lv_goto (tgt := 14) hx hb dX7_repaired_79 (by decide) ?_
            exact ih (k + 1) (by omega) (by rw [fRe, if_neg (fun h => c_63 h.2.2)] at hres_l1; exact hres_l1) _ ls hS (lv_sub hl [2, 3, 4, 5, 0] rfl)
          · refine lv_lload_n hx hb dX7_repaired_66 rfl (lv_at hl 1 rfl) ?_
            refine lv_iload_n hx hb dX7_repaired_67 rfl (lv_at hl 3 rfl) ?_
            refine lv_iload hx hb dX7_repaired_68 (lv_at hl 5 rfl) ?_
            refine lv_iload_n hx hb dX7_repaired_70 rfl (lv_at hl 2 rfl) ?_
            refine lv_ior hx hb dX7_repaired_71 ?_
            refine pu_calll (As := [.long w, .int (fSums w), .int ((nI k) ||| wk)]) (rest := []) ⟨hx, hb, hml, hown, hts⟩ (c_X7_filled l w (fSums w) ((nI k) ||| wk)) (va_cwS 3 hts gX7_repaired_X7_filled rfl rfl rfl (by decide +kernel) ⟨(Nat.le_of_ble_eq_true rfl), (Nat.le_of_ble_eq_true rfl)⟩) rfl hl.1 (lv_room (Nat.le_of_ble_eq_true rfl)) dX7_repaired_72 ⟨Nat.zero_le _, Nat.zero_le _⟩ hS hA rfl (fun locs hS => ?_)
            exact W.lret (v := (fFill w (fSums w) ((nI k) ||| wk))) hx hb hr (fun t ht hW => ⟨⟨(fFill w (fSums w) ((nI k) ||| wk)), (), rfl, (by rw [fRe, if_pos ⟨Int32.not_lt.mp c_33, c_52, c_63⟩] at hres_l1; exact hres_l1), ht⟩, hS.F ht⟩) hS.2.2 dX7_repaired_75
  refine lv_lload_n hx hb dX7_repaired_0 rfl (lv_at hl 0 rfl) ?_
  refine pu_calli (As := [.long w]) (rest := []) ⟨hx, hb, hml, hown, hts⟩ (c_X7_sumsOf l w) (va_cwS 1 hts gX7_repaired_X7_sumsOf rfl rfl rfl (by decide +kernel) ⟨(Nat.le_of_ble_eq_true rfl), (Nat.le_of_ble_eq_true rfl)⟩) rfl hl.1 (lv_room (Nat.le_of_ble_eq_true rfl)) dX7_repaired_1 ⟨Nat.zero_le _, Nat.zero_le _⟩ hS hA rfl (fun locs hS => ?_)
  refine lv_istore_n (lv' := [(3, .int (fSums w)), (0, .long w), (2, .int wk)]) hx hb dX7_repaired_4 rfl hl (by decide) rfl (fun ls hl => ?_)
  refine lv_iload_n hx hb dX7_repaired_5 rfl (lv_at hl 2 rfl) ?_
  refine pu_calli (As := [.int wk]) (rest := []) ⟨hx, hb, hml, hown, hts⟩ (c_J6_bitCount_0f7a4 l wk) (va_cwS 1 hts gX7_repaired_J6_bitCount_0f7a4 rfl rfl rfl (by decide +kernel) ⟨(Nat.le_of_ble_eq_true rfl), (Nat.le_of_ble_eq_true rfl)⟩) rfl hl.1 (lv_room (Nat.le_of_ble_eq_true rfl)) dX7_repaired_6 ⟨Nat.zero_le _, Nat.zero_le _⟩ hS hA rfl (fun locs hS => ?_)
  refine lv_istore (lv' := [(4, .int (fBit wk)), (3, .int (fSums w)), (0, .long w), (2, .int wk)]) hx hb dX7_repaired_9 hl (by decide) rfl (fun ls hl => ?_)
  refine lv_iconst (v := 0) hx hb dX7_repaired_11 (by decide) ?_
  refine lv_istore (lv' := [(5, .int 0), (4, .int (fBit wk)), (3, .int (fSums w)), (0, .long w), (2, .int wk)]) hx hb dX7_repaired_12 hl (by decide) rfl (fun ls hl => ?_)
  exact l1 256 0 rfl rfl _ ls hS (lv_sub hl [3, 4, 2, 1, 0] rfl)
end
section
set_option maxHeartbeats 4000000 in
set_option maxRecDepth 100000 in
theorem c_X1_ofByte (l : Launch) (d : Int32) (b0 : Int32) : pc_i l yX1_ofByte wsX1_ofByte ({ frames := 0, cells := 0, slots := 0, locals := 0 } : Room) [.int d, .int b0] (fByte d b0) := by
  intro H0
  refine Met.ofW (cc := cX1_ofByte) (maxL := 7) (ret := (some .int)) (by decide) rfl ?_
  intro p e s m args below meth c s₁ B hml hv
  obtain ⟨rfl, rfl⟩ := hv
  have hx := B.exec
  have hb := B.bytes
  have hr := B.returns
  have hts := atoms_spec (ws := wsX1_ofByte) B.pre
  have hown : s.vm.findClass RX1 = some m.cls := findClass_of_methodNamed B.named
  have hlocks := B.notSynchronized
  have hS : va_S (fun q => s.heap.size ≤ q) s.heap s.heap [] := va_S.rf
  have hA : ∀ q : Nat, s.heap.size ≤ q → (fun q : Nat => s.heap.size ≤ q) q := fun _ h => h
  have hl := lv_entry ([.int d, .int b0]) (n := 7) (Nat.le_of_ble_eq_true rfl)
  rw [lg_entry_eq]
  generalize (lg_sl ([.int d, .int b0]) ++ List.replicate (7 - (lg_sl ([.int d, .int b0])).length) Slot.unset).toArray = ls at hl ⊢
  have hl : lv_has ls 7 [(0, .int d), (1, .int b0)] := hl
  have l1 : ∀ (n : Nat) (q : Int32) (la : Int32), n ≤ 8 → fOb d n q la = fByte d b0 → ∀ (locs : List Loc) (ls : Array Slot), va_S (fun q => s.heap.size ≤ q) s.heap s.heap locs → lv_has ls 7 [(0, .int d), (1, .int b0), (2, .int q), (3, .int la), (4, .int (nI n + (-1)))] → pW_i p l e wsX1_ofByte ({ frames := 0, cells := 0, slots := 0, locals := 0 } : Room) s m ([.int d, .int b0] : List Value).toArray below meth c (fByte d b0) locs (F0 m 8 ls []) := by
    intro n
    induction n with
    | zero =>
      intro q la hk_l1 hres_l1 locs ls hS hl
      refine lv_iload hx hb dX1_ofByte_8 (lv_at hl 4 rfl) ?_
      refine lv_if_lt (tgt := 58) hx hb dX1_ofByte_10 (by decide) (fun c_10 => ?_) (fun c_10 => absurd c_10 (by decide))
      refine lv_iload_n hx hb dX1_ofByte_58 rfl (lv_at hl 2 rfl) ?_
      exact W.iret (v := q) hx hb hr (fun t ht hW => ⟨⟨q, (), rfl, hres_l1, ht⟩, hS.F ht⟩) hS.2.2 dX1_ofByte_59
    | succ n ih =>
      intro q la hk_l1 hres_l1 locs ls hS hl
      rw [pk_m1 n] at hl
      refine lv_iload hx hb dX1_ofByte_8 (lv_at hl 4 rfl) ?_
      refine lv_if_lt (tgt := 58) hx hb dX1_ofByte_10 (by decide) (fun c_10 => absurd c_10 (nI_pos (n := n) (by omega))) (fun c_10 => ?_)
      refine lv_iload_n hx hb dX1_ofByte_13 rfl (lv_at hl 0 rfl) ?_
      refine lv_iload hx hb dX1_ofByte_14 (lv_at hl 4 rfl) ?_
      refine lv_ishr hx hb dX1_ofByte_16 ?_
      refine lv_iconst (v := 1) hx hb dX1_ofByte_17 (by decide) ?_
      refine lv_iand hx hb dX1_ofByte_18 ?_
      refine lv_istore (lv' := [(5, .int ((d >>> ((nI n) &&& 31)) &&& 1)), (0, .int d), (1, .int b0), (2, .int q), (3, .int la), (4, .int (nI n))]) hx hb dX1_ofByte_19 hl (by decide) rfl (fun ls hl => ?_)
      refine lv_iload_n hx hb dX1_ofByte_21 rfl (lv_at hl 4 rfl) ?_
      refine lv_if_ne (tgt := 34) hx hb dX1_ofByte_22 (by decide) (fun c_22 => ?_) (fun c_22 => ?_)
      · refine lv_iconst (v := 0) hx hb dX1_ofByte_34 (by decide) ?_
        refine lv_istore (lv' := [(6, .int 0), (5, .int ((d >>> ((nI n) &&& 31)) &&& 1)), (0, .int d), (1, .int b0), (2, .int q), (3, .int la), (4, .int (nI n))]) hx hb dX1_ofByte_35 hl (by decide) rfl (fun ls hl => ?_)
        refine lv_iload_n hx hb dX1_ofByte_37 rfl (lv_at hl 4 rfl) ?_
        refine lv_iconst (v := 2) hx hb dX1_ofByte_38 (by decide) ?_
        refine lv_ishl hx hb dX1_ofByte_39 ?_
        refine lv_iload hx hb dX1_ofByte_40 (lv_at hl 0 rfl) ?_
        refine lv_iconst (v := 1) hx hb dX1_ofByte_42 (by decide) ?_
        refine lv_ishl hx hb dX1_ofByte_43 ?_
        refine lv_ior hx hb dX1_ofByte_44 ?_
        refine lv_iload hx hb dX1_ofByte_45 (lv_at hl 1 rfl) ?_
        refine lv_ior hx hb dX1_ofByte_47 ?_
        refine lv_istore_n (lv' := [(2, .int (((q <<< (2 &&& 31)) ||| ((0 : Int32) <<< (1 &&& 31))) ||| ((d >>> ((nI n) &&& 31)) &&& 1))), (6, .int 0), (5, .int ((d >>> ((nI n) &&& 31)) &&& 1)), (0, .int d), (1, .int b0), (3, .int la), (4, .int (nI n))]) hx hb dX1_ofByte_48 rfl hl (by decide) rfl (fun ls hl => ?_)
        refine lv_iload hx hb dX1_ofByte_49 (lv_at hl 2 rfl) ?_
        refine lv_istore_n (lv' := [(3, .int ((d >>> ((nI n) &&& 31)) &&& 1)), (2, .int (((q <<< (2 &&& 31)) ||| ((0 : Int32) <<< (1 &&& 31))) ||| ((d >>> ((nI n) &&& 31)) &&& 1))), (6, .int 0), (5, .int ((d >>> ((nI n) &&& 31)) &&& 1)), (0, .int d), (1, .int b0), (4, .int (nI n))]) hx hb dX1_ofByte_51 rfl hl (by decide) rfl (fun ls hl => ?_)
        refine lv_iinc (v := (nI n) + (-1)) (lv' := [(4, .int ((nI n) + (-1))), (3, .int ((d >>> ((nI n) &&& 31)) &&& 1)), (2, .int (((q <<< (2 &&& 31)) ||| ((0 : Int32) <<< (1 &&& 31))) ||| ((d >>> ((nI n) &&& 31)) &&& 1))), (6, .int 0), (5, .int ((d >>> ((nI n) &&& 31)) &&& 1)), (0, .int d), (1, .int b0)]) hx hb dX1_ofByte_52 hl (k := 6) rfl rfl (by decide) rfl (fun ls hl => ?_)
        refine lv_goto (tgt := 8) hx hb dX1_ofByte_55 (by decide) ?_
        exact ih _ _ (by omega) (by rw [fOb, if_neg (fun h => c_22 h.1)] at hres_l1; exact hres_l1) _ ls hS (lv_sub hl [5, 6, 2, 1, 0] rfl)
      · refine lv_iload hx hb dX1_ofByte_25 (lv_at hl 0 rfl) ?_
        refine lv_if_ne (tgt := 34) hx hb dX1_ofByte_27 (by decide) (fun c_27 => ?_) (fun c_27 => ?_)
        · refine lv_iconst (v := 0) hx hb dX1_ofByte_34 (by decide) ?_
          refine lv_istore (lv' := [(6, .int 0), (5, .int ((d >>> ((nI n) &&& 31)) &&& 1)), (0, .int d), (1, .int b0), (2, .int q), (3, .int la), (4, .int (nI n))]) hx hb dX1_ofByte_35 hl (by decide) rfl (fun ls hl => ?_)
          refine lv_iload_n hx hb dX1_ofByte_37 rfl (lv_at hl 4 rfl) ?_
          refine lv_iconst (v := 2) hx hb dX1_ofByte_38 (by decide) ?_
          refine lv_ishl hx hb dX1_ofByte_39 ?_
          refine lv_iload hx hb dX1_ofByte_40 (lv_at hl 0 rfl) ?_
          refine lv_iconst (v := 1) hx hb dX1_ofByte_42 (by decide) ?_
          refine lv_ishl hx hb dX1_ofByte_43 ?_
          refine lv_ior hx hb dX1_ofByte_44 ?_
          refine lv_iload hx hb dX1_ofByte_45 (lv_at hl 1 rfl) ?_
          refine lv_ior hx hb dX1_ofByte_47 ?_
          refine lv_istore_n (lv' := [(2, .int (((q <<< (2 &&& 31)) ||| ((0 : Int32) <<< (1 &&& 31))) ||| ((d >>> ((nI n) &&& 31)) &&& 1))), (6, .int 0), (5, .int ((d >>> ((nI n) &&& 31)) &&& 1)), (0, .int d), (1, .int b0), (3, .int la), (4, .int (nI n))]) hx hb dX1_ofByte_48 rfl hl (by decide) rfl (fun ls hl => ?_)
          refine lv_iload hx hb dX1_ofByte_49 (lv_at hl 2 rfl) ?_
          refine lv_istore_n (lv' := [(3, .int ((d >>> ((nI n) &&& 31)) &&& 1)), (2, .int (((q <<< (2 &&& 31)) ||| ((0 : Int32) <<< (1 &&& 31))) ||| ((d >>> ((nI n) &&& 31)) &&& 1))), (6, .int 0), (5, .int ((d >>> ((nI n) &&& 31)) &&& 1)), (0, .int d), (1, .int b0), (4, .int (nI n))]) hx hb dX1_ofByte_51 rfl hl (by decide) rfl (fun ls hl => ?_)
          refine lv_iinc (v := (nI n) + (-1)) (lv' := [(4, .int ((nI n) + (-1))), (3, .int ((d >>> ((nI n) &&& 31)) &&& 1)), (2, .int (((q <<< (2 &&& 31)) ||| ((0 : Int32) <<< (1 &&& 31))) ||| ((d >>> ((nI n) &&& 31)) &&& 1))), (6, .int 0), (5, .int ((d >>> ((nI n) &&& 31)) &&& 1)), (0, .int d), (1, .int b0)]) hx hb dX1_ofByte_52 hl (k := 6) rfl rfl (by decide) rfl (fun ls hl => ?_)
          refine lv_goto (tgt := 8) hx hb dX1_ofByte_55 (by decide) ?_
          exact ih _ _ (by omega) (by rw [fOb, if_neg (fun h => c_27 h.2)] at hres_l1; exact hres_l1) _ ls hS (lv_sub hl [5, 6, 2, 1, 0] rfl)
        · refine lv_iconst (v := 1) hx hb dX1_ofByte_30 (by decide) ?_
          refine lv_goto (tgt := 35) hx hb dX1_ofByte_31 (by decide) ?_
          refine lv_istore (lv' := [(6, .int 1), (5, .int ((d >>> ((nI n) &&& 31)) &&& 1)), (0, .int d), (1, .int b0), (2, .int q), (3, .int la), (4, .int (nI n))]) hx hb dX1_ofByte_35 hl (by decide) rfl (fun ls hl => ?_)
          refine lv_iload_n hx hb dX1_ofByte_37 rfl (lv_at hl 4 rfl) ?_
          refine lv_iconst (v := 2) hx hb dX1_ofByte_38 (by decide) ?_
          refine lv_ishl hx hb dX1_ofByte_39 ?_
          refine lv_iload hx hb dX1_ofByte_40 (lv_at hl 0 rfl) ?_
          refine lv_iconst (v := 1) hx hb dX1_ofByte_42 (by decide) ?_
          refine lv_ishl hx hb dX1_ofByte_43 ?_
          refine lv_ior hx hb dX1_ofByte_44 ?_
          refine lv_iload hx hb dX1_ofByte_45 (lv_at hl 1 rfl) ?_
          refine lv_ior hx hb dX1_ofByte_47 ?_
          refine lv_istore_n (lv' := [(2, .int (((q <<< (2 &&& 31)) ||| ((1 : Int32) <<< (1 &&& 31))) ||| ((d >>> ((nI n) &&& 31)) &&& 1))), (6, .int 1), (5, .int ((d >>> ((nI n) &&& 31)) &&& 1)), (0, .int d), (1, .int b0), (3, .int la), (4, .int (nI n))]) hx hb dX1_ofByte_48 rfl hl (by decide) rfl (fun ls hl => ?_)
          refine lv_iload hx hb dX1_ofByte_49 (lv_at hl 2 rfl) ?_
          refine lv_istore_n (lv' := [(3, .int ((d >>> ((nI n) &&& 31)) &&& 1)), (2, .int (((q <<< (2 &&& 31)) ||| ((1 : Int32) <<< (1 &&& 31))) ||| ((d >>> ((nI n) &&& 31)) &&& 1))), (6, .int 1), (5, .int ((d >>> ((nI n) &&& 31)) &&& 1)), (0, .int d), (1, .int b0), (4, .int (nI n))]) hx hb dX1_ofByte_51 rfl hl (by decide) rfl (fun ls hl => ?_)
          refine lv_iinc (v := (nI n) + (-1)) (lv' := [(4, .int ((nI n) + (-1))), (3, .int ((d >>> ((nI n) &&& 31)) &&& 1)), (2, .int (((q <<< (2 &&& 31)) ||| ((1 : Int32) <<< (1 &&& 31))) ||| ((d >>> ((nI n) &&& 31)) &&& 1))), (6, .int 1), (5, .int ((d >>> ((nI n) &&& 31)) &&& 1)), (0, .int d), (1, .int b0)]) hx hb dX1_ofByte_52 hl (k := 6) rfl rfl (by decide) rfl (fun ls hl => ?_)
          refine lv_goto (tgt := 8) hx hb dX1_ofByte_55 (by decide) ?_
          exact ih _ _ (by omega) (by rw [fOb, if_pos ⟨c_22, c_27⟩] at hres_l1; exact hres_l1) _ ls hS (lv_sub hl [5, 6, 2, 1, 0] rfl)
  refine lv_iconst (v := 0) hx hb dX1_ofByte_0 (by decide) ?_
  refine lv_istore_n (lv' := [(2, .int 0), (0, .int d), (1, .int b0)]) hx hb dX1_ofByte_1 rfl hl (by decide) rfl (fun ls hl => ?_)
  refine lv_iload_n hx hb dX1_ofByte_2 rfl (lv_at hl 2 rfl) ?_
  refine lv_istore_n (lv' := [(3, .int b0), (2, .int 0), (0, .int d), (1, .int b0)]) hx hb dX1_ofByte_3 rfl hl (by decide) rfl (fun ls hl => ?_)
  refine lv_bipush (v := 7) hx hb dX1_ofByte_4 (by decide) ?_
  refine lv_istore (lv' := [(4, .int 7), (3, .int b0), (2, .int 0), (0, .int d), (1, .int b0)]) hx hb dX1_ofByte_6 hl (by decide) rfl (fun ls hl => ?_)
  exact l1 8 0 b0 (Nat.le_refl 8) rfl _ ls hS (lv_sub hl [3, 4, 2, 1, 0] rfl)
set_option maxHeartbeats 4000000 in
set_option maxRecDepth 100000 in
theorem c_X1_dataOf (l : Launch) (cl : Int32) : pc_i l yX1_dataOf wsX1_dataOf ({ frames := 0, cells := 0, slots := 0, locals := 0 } : Room) [.int cl] (fData cl) := by
  intro H0
  refine Met.ofW (cc := cX1_dataOf) (maxL := 3) (ret := (some .int)) (by decide) rfl ?_
  intro p e s m args below meth c s₁ B hml hv
  obtain ⟨rfl, rfl⟩ := hv
  have hx := B.exec
  have hb := B.bytes
  have hr := B.returns
  have hts := atoms_spec (ws := wsX1_dataOf) B.pre
  have hown : s.vm.findClass RX1 = some m.cls := findClass_of_methodNamed B.named
  have hlocks := B.notSynchronized
  have hS : va_S (fun q => s.heap.size ≤ q) s.heap s.heap [] := va_S.rf
  have hA : ∀ q : Nat, s.heap.size ≤ q → (fun q : Nat => s.heap.size ≤ q) q := fun _ h => h
  have hl := lv_entry ([.int cl]) (n := 3) (Nat.le_of_ble_eq_true rfl)
  rw [lg_entry_eq]
  generalize (lg_sl ([.int cl]) ++ List.replicate (3 - (lg_sl ([.int cl])).length) Slot.unset).toArray = ls at hl ⊢
  have hl : lv_has ls 3 [(0, .int cl)] := hl
  have l1 : ∀ (n : Nat) (q : Int32), n ≤ 8 → fDa cl n q = fData cl → ∀ (locs : List Loc) (ls : Array Slot), va_S (fun q => s.heap.size ≤ q) s.heap s.heap locs → lv_has ls 3 [(0, .int cl), (1, .int q), (2, .int (nI n + (-1)))] → pW_i p l e wsX1_dataOf ({ frames := 0, cells := 0, slots := 0, locals := 0 } : Room) s m ([.int cl] : List Value).toArray below meth c (fData cl) locs (F0 m 5 ls []) := by
    intro n
    induction n with
    | zero =>
      intro q hk_l1 hres_l1 locs ls hS hl
      refine lv_iload_n hx hb dX1_dataOf_5 rfl (lv_at hl 2 rfl) ?_
      refine lv_if_lt (tgt := 27) hx hb dX1_dataOf_6 (by decide) (fun c_6 => ?_) (fun c_6 => absurd c_6 (by decide))
      refine lv_iload_n hx hb dX1_dataOf_27 rfl (lv_at hl 1 rfl) ?_
      exact W.iret (v := q) hx hb hr (fun t ht hW => ⟨⟨q, (), rfl, hres_l1, ht⟩, hS.F ht⟩) hS.2.2 dX1_dataOf_28
    | succ n ih =>
      intro q hk_l1 hres_l1 locs ls hS hl
      rw [pk_m1 n] at hl
      refine lv_iload_n hx hb dX1_dataOf_5 rfl (lv_at hl 2 rfl) ?_
      refine lv_if_lt (tgt := 27) hx hb dX1_dataOf_6 (by decide) (fun c_6 => absurd c_6 (nI_pos (n := n) (by omega))) (fun c_6 => ?_)
      refine lv_iload_n hx hb dX1_dataOf_9 rfl (lv_at hl 1 rfl) ?_
      refine lv_iconst (v := 1) hx hb dX1_dataOf_10 (by decide) ?_
      refine lv_ishl hx hb dX1_dataOf_11 ?_
      refine lv_iload_n hx hb dX1_dataOf_12 rfl (lv_at hl 0 rfl) ?_
      refine lv_iconst (v := 2) hx hb dX1_dataOf_13 (by decide) ?_
      refine lv_iload_n hx hb dX1_dataOf_14 rfl (lv_at hl 2 rfl) ?_
      refine lv_imul hx hb dX1_dataOf_15 ?_
      refine lv_ishr hx hb dX1_dataOf_16 ?_
      refine lv_iconst (v := 1) hx hb dX1_dataOf_17 (by decide) ?_
      refine lv_iand hx hb dX1_dataOf_18 ?_
      refine lv_ior hx hb dX1_dataOf_19 ?_
      refine lv_istore_n (lv' := [(1, .int ((q <<< (1 &&& 31)) ||| ((cl >>> ((2 * (nI n)) &&& 31)) &&& 1))), (0, .int cl), (2, .int (nI n))]) hx hb dX1_dataOf_20 rfl hl (by decide) rfl (fun ls hl => ?_)
      refine lv_iinc (v := (nI n) + (-1)) (lv' := [(2, .int ((nI n) + (-1))), (1, .int ((q <<< (1 &&& 31)) ||| ((cl >>> ((2 * (nI n)) &&& 31)) &&& 1))), (0, .int cl)]) hx hb dX1_dataOf_21 hl (k := 2) rfl rfl (by decide) rfl (fun ls hl => ?_)
      refine lv_goto (tgt := 5) hx hb dX1_dataOf_24 (by decide) ?_
      exact ih _ (by omega) (by rw [fDa] at hres_l1; exact hres_l1) _ ls hS (lv_sub hl [2, 1, 0] rfl)
  refine lv_iconst (v := 0) hx hb dX1_dataOf_0 (by decide) ?_
  refine lv_istore_n (lv' := [(1, .int 0), (0, .int cl)]) hx hb dX1_dataOf_1 rfl hl (by decide) rfl (fun ls hl => ?_)
  refine lv_bipush (v := 7) hx hb dX1_dataOf_2 (by decide) ?_
  refine lv_istore_n (lv' := [(2, .int 7), (1, .int 0), (0, .int cl)]) hx hb dX1_dataOf_4 rfl hl (by decide) rfl (fun ls hl => ?_)
  exact l1 8 0 (Nat.le_refl 8) rfl _ ls hS (lv_sub hl [2, 1, 0] rfl)
set_option maxHeartbeats 4000000 in
set_option maxRecDepth 100000 in
theorem c_X2_isBetter (l : Launch) (a : Int64) (b : Int64) (c1 : Int64) (d : Int64) : pc_i l yX2_isBetter wsX2_isBetter ({ frames := 0, cells := 0, slots := 0, locals := 0 } : Room) [.long a, .long b, .long c1, .long d] (fBetter a b c1 d) := by
  intro H0
  refine Met.ofW (cc := cX2_isBetter) (maxL := 8) (ret := (some .boolean)) (by decide) rfl ?_
  intro p e s m args below meth c s₁ B hml hv
  obtain ⟨rfl, rfl⟩ := hv
  have hx := B.exec
  have hb := B.bytes
  have hr := B.returns
  have hts := atoms_spec (ws := wsX2_isBetter) B.pre
  have hown : s.vm.findClass RX2 = some m.cls := findClass_of_methodNamed B.named
  have hlocks := B.notSynchronized
  have hS : va_S (fun q => s.heap.size ≤ q) s.heap s.heap [] := va_S.rf
  have hA : ∀ q : Nat, s.heap.size ≤ q → (fun q : Nat => s.heap.size ≤ q) q := fun _ h => h
  have hl := lv_entry ([.long a, .long b, .long c1, .long d]) (n := 8) (Nat.le_of_ble_eq_true rfl)
  rw [lg_entry_eq]
  generalize (lg_sl ([.long a, .long b, .long c1, .long d]) ++ List.replicate (8 - (lg_sl ([.long a, .long b, .long c1, .long d])).length) Slot.unset).toArray = ls at hl ⊢
  have hl : lv_has ls 8 [(0, .long a), (2, .long b), (4, .long c1), (6, .long d)] := hl
  refine lv_lload_n hx hb dX2_isBetter_0 rfl (lv_at hl 0 rfl) ?_
  refine lv_lload hx hb dX2_isBetter_1 (lv_at hl 2 rfl) ?_
  refine W.lcmp hx hb dX2_isBetter_3 ?_
  refine lv_if_lt (tgt := 21) hx hb dX2_isBetter_4 (by decide) (fun c_4 => ?_) (fun c_4 => ?_)
  · refine lv_iconst (v := 1) hx hb dX2_isBetter_21 (by decide) ?_
    refine lv_goto (tgt := 26) hx hb dX2_isBetter_22 (by decide) ?_
    exact W.zret (v := 1) hx hb hr (by first | rfl | decide) (fun t ht hW => ⟨⟨1, (), rfl, (if_pos (Or.inl ((lg_cmp_lt _ _).mp c_4))).symm, ht⟩, hS.F ht⟩) hS.2.2 dX2_isBetter_26
  · refine lv_lload_n hx hb dX2_isBetter_7 rfl (lv_at hl 0 rfl) ?_
    refine lv_lload hx hb dX2_isBetter_8 (lv_at hl 2 rfl) ?_
    refine W.lcmp hx hb dX2_isBetter_10 ?_
    refine lv_if_ne (tgt := 25) hx hb dX2_isBetter_11 (by decide) (fun c_11 => ?_) (fun c_11 => ?_)
    · refine lv_iconst (v := 0) hx hb dX2_isBetter_25 (by decide) ?_
      exact W.zret (v := 0) hx hb hr (by first | rfl | decide) (fun t ht hW => ⟨⟨0, (), rfl, (if_neg (fun h => h.elim (fun h => c_4 ((lg_cmp_lt _ _).mpr h)) (fun h => c_11 ((lg_cmp_eq _ _).mpr h.1)))).symm, ht⟩, hS.F ht⟩) hS.2.2 dX2_isBetter_26
    · refine lv_lload_n hx hb dX2_isBetter_14 rfl (lv_at hl 1 rfl) ?_
      refine lv_lload hx hb dX2_isBetter_15 (lv_at hl 3 rfl) ?_
      refine W.lcmp hx hb dX2_isBetter_17 ?_
      refine lv_if_ge (tgt := 25) hx hb dX2_isBetter_18 (by decide) (fun c_18 => ?_) (fun c_18 => ?_)
      · refine lv_iconst (v := 0) hx hb dX2_isBetter_25 (by decide) ?_
        exact W.zret (v := 0) hx hb hr (by first | rfl | decide) (fun t ht hW => ⟨⟨0, (), rfl, (if_neg (fun h => h.elim (fun h => c_4 ((lg_cmp_lt _ _).mpr h)) (fun h => absurd h.2 (Int64.not_lt.mpr ((lg_cmp_ge _ _).mp c_18))))).symm, ht⟩, hS.F ht⟩) hS.2.2 dX2_isBetter_26
      · refine lv_iconst (v := 1) hx hb dX2_isBetter_21 (by decide) ?_
        refine lv_goto (tgt := 26) hx hb dX2_isBetter_22 (by decide) ?_
        exact W.zret (v := 1) hx hb hr (by first | rfl | decide) (fun t ht hW => ⟨⟨1, (), rfl, (if_pos (Or.inr ⟨(lg_cmp_eq _ _).mp c_11, Int64.not_le.mp (fun h => c_18 ((lg_cmp_ge _ _).mpr h))⟩)).symm, ht⟩, hS.F ht⟩) hS.2.2 dX2_isBetter_26
set_option maxHeartbeats 4000000 in
set_option maxRecDepth 100000 in
theorem c_L_product (l : Launch) (a : Int32) (b : Int32) : pc_i l yL_product wsL_product ({ frames := 0, cells := 0, slots := 0, locals := 0 } : Room) [.int a, .int b] (gProd a b) := by
  intro H0
  refine Met.ofW (cc := cL_product) (maxL := 5) (ret := (some .int)) (by decide) rfl ?_
  intro p e s m args below meth c s₁ B hml hv
  obtain ⟨rfl, rfl⟩ := hv
  have hx := B.exec
  have hb := B.bytes
  have hr := B.returns
  have hts := atoms_spec (ws := wsL_product) B.pre
  have hown : s.vm.findClass RL = some m.cls := findClass_of_methodNamed B.named
  have hlocks := B.notSynchronized
  have hS : va_S (fun q => s.heap.size ≤ q) s.heap s.heap [] := va_S.rf
  have hA : ∀ q : Nat, s.heap.size ≤ q → (fun q : Nat => s.heap.size ≤ q) q := fun _ h => h
  have hl := lv_entry ([.int a, .int b]) (n := 5) (Nat.le_of_ble_eq_true rfl)
  rw [lg_entry_eq]
  generalize (lg_sl ([.int a, .int b]) ++ List.replicate (5 - (lg_sl ([.int a, .int b])).length) Slot.unset).toArray = ls at hl ⊢
  have hl : lv_has ls 5 [(0, .int a), (1, .int b)] := hl
  have l1 : ∀ (n k : Nat) (q : Int32) (lf : Int32), k + n = 4 → gPr b n k q lf = gProd a b → ∀ (locs : List Loc) (ls : Array Slot), va_S (fun q => s.heap.size ≤ q) s.heap s.heap locs → lv_has ls 5 [(0, .int a), (1, .int b), (2, .int q), (3, .int lf), (4, .int (nI k))] → pW_i p l e wsL_product ({ frames := 0, cells := 0, slots := 0, locals := 0 } : Room) s m ([.int a, .int b] : List Value).toArray below meth c (gProd a b) locs (F0 m 7 ls []) := by
    intro n
    induction n with
    | zero =>
      intro k q lf hk_l1  hres_l1 locs ls hS hl
      obtain rfl : k = 4 := by omega
      refine lv_iload hx hb dL_product_7 (lv_at hl 4 rfl) ?_
      refine lv_iconst (v := 4) hx hb dL_product_9 (by decide) ?_
      refine lv_icmp_ge (tgt := 49) hx hb dL_product_10 (by decide) (fun c_10 => ?_) (fun c_10 => absurd c_10 (by decide))
      refine lv_iload_n hx hb dL_product_49 rfl (lv_at hl 2 rfl) ?_
      exact W.iret (v := q) hx hb hr (fun t ht hW => ⟨⟨q, (), rfl, hres_l1, ht⟩, hS.F ht⟩) hS.2.2 dL_product_50
    | succ n ih =>
      intro k q lf hk_l1  hres_l1 locs ls hS hl
      refine lv_iload hx hb dL_product_7 (lv_at hl 4 rfl) ?_
      refine lv_iconst (v := 4) hx hb dL_product_9 (by decide) ?_
      refine lv_icmp_ge (tgt := 49) hx hb dL_product_10 (by decide) (fun c_10 => absurd c_10 (nI_ge (a := k) (b := 4) (by omega) (by omega))) (fun c_10 => ?_)
      refine lv_iload_n hx hb dL_product_13 rfl (lv_at hl 2 rfl) ?_
      refine lv_iload_n hx hb dL_product_14 rfl (lv_at hl 1 rfl) ?_
      refine lv_iload hx hb dL_product_15 (lv_at hl 4 rfl) ?_
      refine lv_ishr hx hb dL_product_17 ?_
      refine lv_iconst (v := 1) hx hb dL_product_18 (by decide) ?_
      refine lv_iand hx hb dL_product_19 ?_
      refine lv_iload_n hx hb dL_product_20 rfl (lv_at hl 3 rfl) ?_
      refine lv_imul hx hb dL_product_21 ?_
      refine lv_ixor hx hb dL_product_22 ?_
      refine lv_istore_n (lv' := [(2, .int (q ^^^ (((b >>> ((nI k) &&& 31)) &&& 1) * lf))), (0, .int a), (1, .int b), (3, .int lf), (4, .int (nI k))]) hx hb dL_product_23 rfl hl (by decide) rfl (fun ls hl => ?_)
      refine lv_iload_n hx hb dL_product_24 rfl (lv_at hl 3 rfl) ?_
      refine lv_bipush (v := 8) hx hb dL_product_25 (by decide) ?_
      refine lv_icmp_ge (tgt := 36) hx hb dL_product_27 (by decide) (fun c_27 => ?_) (fun c_27 => ?_)
      · refine lv_iconst (v := 2) hx hb dL_product_36 (by decide) ?_
        refine lv_iload_n hx hb dL_product_37 rfl (lv_at hl 3 rfl) ?_
        refine lv_imul hx hb dL_product_38 ?_
        refine lv_bipush (v := 19) hx hb dL_product_39 (by decide) ?_
        refine lv_ixor hx hb dL_product_41 ?_
        refine lv_istore_n (lv' := [(3, .int ((2 * lf) ^^^ 19)), (2, .int (q ^^^ (((b >>> ((nI k) &&& 31)) &&& 1) * lf))), (0, .int a), (1, .int b), (4, .int (nI k))]) hx hb dL_product_42 rfl hl (by decide) rfl (fun ls hl => ?_)
        refine lv_iinc (v := nI (k + 1)) (lv' := [(4, .int (nI (k + 1))), (3, .int ((2 * lf) ^^^ 19)), (2, .int (q ^^^ (((b >>> ((nI k) &&& 31)) &&& 1) * lf))), (0, .int a), (1, .int b)]) hx hb dL_product_43 hl (k := 4) rfl (nI_1 _) (by decide) rfl (fun ls hl => ?_)
        refine lv_goto (tgt := 7) hx hb dL_product_46 (by decide) ?_
        exact ih (k + 1) _ _ (by omega) (by rw [gPr, if_neg (Int32.not_lt.mpr c_27)] at hres_l1; exact hres_l1) _ ls hS (lv_sub hl [3, 4, 2, 1, 0] rfl)
      · refine lv_iconst (v := 2) hx hb dL_product_30 (by decide) ?_
        refine lv_iload_n hx hb dL_product_31 rfl (lv_at hl 3 rfl) ?_
        refine lv_imul hx hb dL_product_32 ?_
        refine lv_goto (tgt := 42) hx hb dL_product_33 (by decide) ?_
        refine lv_istore_n (lv' := [(3, .int (2 * lf)), (2, .int (q ^^^ (((b >>> ((nI k) &&& 31)) &&& 1) * lf))), (0, .int a), (1, .int b), (4, .int (nI k))]) hx hb dL_product_42 rfl hl (by decide) rfl (fun ls hl => ?_)
        refine lv_iinc (v := nI (k + 1)) (lv' := [(4, .int (nI (k + 1))), (3, .int (2 * lf)), (2, .int (q ^^^ (((b >>> ((nI k) &&& 31)) &&& 1) * lf))), (0, .int a), (1, .int b)]) hx hb dL_product_43 hl (k := 4) rfl (nI_1 _) (by decide) rfl (fun ls hl => ?_)
        refine lv_goto (tgt := 7) hx hb dL_product_46 (by decide) ?_
        exact ih (k + 1) _ _ (by omega) (by rw [gPr, if_pos (Int32.not_le.mp c_27)] at hres_l1; exact hres_l1) _ ls hS (lv_sub hl [3, 4, 2, 1, 0] rfl)
  refine lv_iconst (v := 0) hx hb dL_product_0 (by decide) ?_
  refine lv_istore_n (lv' := [(2, .int 0), (0, .int a), (1, .int b)]) hx hb dL_product_1 rfl hl (by decide) rfl (fun ls hl => ?_)
  refine lv_iload_n hx hb dL_product_2 rfl (lv_at hl 1 rfl) ?_
  refine lv_istore_n (lv' := [(3, .int a), (2, .int 0), (0, .int a), (1, .int b)]) hx hb dL_product_3 rfl hl (by decide) rfl (fun ls hl => ?_)
  refine lv_iconst (v := 0) hx hb dL_product_4 (by decide) ?_
  refine lv_istore (lv' := [(4, .int 0), (3, .int a), (2, .int 0), (0, .int a), (1, .int b)]) hx hb dL_product_5 hl (by decide) rfl (fun ls hl => ?_)
  exact l1 4 0 0 a rfl rfl _ ls hS (lv_sub hl [3, 4, 2, 1, 0] rfl)
set_option maxHeartbeats 4000000 in
set_option maxRecDepth 100000 in
theorem c_L_isWord (l : Launch) (w : Int64) : pc_i l yL_isWord wsL_isWord ({ frames := 1, cells := 0, slots := 0, locals := 24 } : Room) [.long w] (gIsW w) := by
  intro H0
  refine Met.ofW (cc := cL_isWord) (maxL := 8) (ret := (some .boolean)) (by decide) rfl ?_
  intro p e s m args below meth c s₁ B hml hv
  obtain ⟨rfl, rfl⟩ := hv
  have hx := B.exec
  have hb := B.bytes
  have hr := B.returns
  have hts := atoms_spec (ws := wsL_isWord) B.pre
  have hown : s.vm.findClass RL = some m.cls := findClass_of_methodNamed B.named
  have hlocks := B.notSynchronized
  have hS : va_S (fun q => s.heap.size ≤ q) s.heap s.heap [] := va_S.rf
  have hA : ∀ q : Nat, s.heap.size ≤ q → (fun q : Nat => s.heap.size ≤ q) q := fun _ h => h
  have hl := lv_entry ([.long w]) (n := 8) (Nat.le_of_ble_eq_true rfl)
  rw [lg_entry_eq]
  generalize (lg_sl ([.long w]) ++ List.replicate (8 - (lg_sl ([.long w])).length) Slot.unset).toArray = ls at hl ⊢
  have hl : lv_has ls 8 [(0, .long w)] := hl
  have l1 : ∀ (n k : Nat) (q : Int32) (ro : Int32), k + n = 4 → q &&& 1 = q → gWO w n q ro = gIsW w → ∀ (locs : List Loc) (ls : Array Slot), va_S (fun q => s.heap.size ≤ q) s.heap s.heap locs → lv_has ls 8 [(0, .long w), (2, .int q), (3, .int ro), (4, .int (nI k))] → pW_i p l e wsL_isWord ({ frames := 1, cells := 0, slots := 0, locals := 24 } : Room) s m ([.long w] : List Value).toArray below meth c (gIsW w) locs (F0 m 7 ls []) := by
    intro n
    induction n with
    | zero =>
      intro k q ro hk_l1 hq hres_l1 locs ls hS hl
      obtain rfl : k = 4 := by omega
      refine lv_iload hx hb dL_isWord_7 (lv_at hl 3 rfl) ?_
      refine lv_iconst (v := 4) hx hb dL_isWord_9 (by decide) ?_
      refine lv_icmp_ge (tgt := 84) hx hb dL_isWord_10 (by decide) (fun c_10 => ?_) (fun c_10 => absurd c_10 (by decide))
      refine lv_iload_n hx hb dL_isWord_84 rfl (lv_at hl 1 rfl) ?_
      exact W.zret (v := q) hx hb hr (congrArg Value.int hq) (fun t ht hW => ⟨⟨q, (), rfl, hres_l1, ht⟩, hS.F ht⟩) hS.2.2 dL_isWord_85
    | succ n ih =>
      intro k q ro hk_l1 hq hres_l1 locs ls hS hl
      have l2 : ∀ (n2 j : Nat) (z : Int32) (fa : Int32), j + n2 = 8 → gWI w ro n2 j z fa = gWI w ro 8 0 0 1 → ∀ (locs : List Loc) (ls : Array Slot), va_S (fun q => s.heap.size ≤ q) s.heap s.heap locs → lv_has ls 8 [(0, .long w), (2, .int q), (3, .int ro), (4, .int (nI k)), (5, .int z), (6, .int fa), (7, .int (nI j))] → pW_i p l e wsL_isWord ({ frames := 1, cells := 0, slots := 0, locals := 24 } : Room) s m ([.long w] : List Value).toArray below meth c (gIsW w) locs (F0 m 22 ls []) := by
        intro n2
        induction n2 with
        | zero =>
          intro j z fa hk_l2  hres_l2 locs ls hS hl
          obtain rfl : j = 8 := by omega
          refine lv_iload hx hb dL_isWord_22 (lv_at hl 6 rfl) ?_
          refine lv_bipush (v := 8) hx hb dL_isWord_24 (by decide) ?_
          refine lv_icmp_ge (tgt := 59) hx hb dL_isWord_26 (by decide) (fun c_26 => ?_) (fun c_26 => absurd c_26 (by decide))
          refine lv_iload_n hx hb dL_isWord_59 rfl (lv_at hl 1 rfl) ?_
          refine lv_iload hx hb dL_isWord_60 (lv_at hl 4 rfl) ?_
          refine lv_if_ne (tgt := 69) hx hb dL_isWord_62 (by decide) (fun c_62 => ?_) (fun c_62 => ?_)
          · refine lv_iconst (v := 0) hx hb dL_isWord_69 (by decide) ?_
            refine lv_iand hx hb dL_isWord_70 ?_
            refine lv_istore_n (lv' := [(2, .int (q &&& 0)), (0, .long w), (3, .int ro), (4, .int (nI k)), (5, .int z), (6, .int fa), (7, .int (nI 8))]) hx hb dL_isWord_71 rfl hl (by decide) rfl (fun ls hl => ?_)
            refine lv_iload_n hx hb dL_isWord_72 rfl (lv_at hl 2 rfl) ?_
            refine lv_iconst (v := 2) hx hb dL_isWord_73 (by decide) ?_
            refine pu_calli (As := [.int ro, .int 2]) (rest := []) ⟨hx, hb, hml, hown, hts⟩ (c_L_product l ro 2) (va_cwS 2 hts gL_isWord_L_product rfl rfl rfl (by decide +kernel) ⟨(Nat.le_of_ble_eq_true rfl), (Nat.le_of_ble_eq_true rfl)⟩) rfl hl.1 (lv_room (Nat.le_of_ble_eq_true rfl)) dL_isWord_74 ⟨Nat.zero_le _, Nat.zero_le _⟩ hS hA rfl (fun locs hS => ?_)
            refine lv_istore_n (lv' := [(3, .int (gProd ro 2)), (2, .int (q &&& 0)), (0, .long w), (4, .int (nI k)), (5, .int z), (6, .int fa), (7, .int (nI 8))]) hx hb dL_isWord_77 rfl hl (by decide) rfl (fun ls hl => ?_)
            refine lv_iinc (v := nI (k + 1)) (lv' := [(4, .int (nI (k + 1))), (3, .int (gProd ro 2)), (2, .int (q &&& 0)), (0, .long w), (5, .int z), (6, .int fa), (7, .int (nI 8))]) hx hb dL_isWord_78 hl (k := 3) rfl (nI_1 _) (by decide) rfl (fun ls hl => ?_)
            refine lv_goto (tgt := 7) hx hb dL_isWord_81 (by decide) ?_
            exact ih (k + 1) _ _ (by omega) (by rw [Int32.and_assoc]; rfl) (by rw [gWO, ← hres_l2, gWI, if_neg c_62] at hres_l1; exact hres_l1) _ ls hS (lv_sub hl [3, 2, 1, 0] rfl)
          · refine lv_iconst (v := 1) hx hb dL_isWord_65 (by decide) ?_
            refine lv_goto (tgt := 70) hx hb dL_isWord_66 (by decide) ?_
            refine lv_iand hx hb dL_isWord_70 ?_
            refine lv_istore_n (lv' := [(2, .int (q &&& 1)), (0, .long w), (3, .int ro), (4, .int (nI k)), (5, .int z), (6, .int fa), (7, .int (nI 8))]) hx hb dL_isWord_71 rfl hl (by decide) rfl (fun ls hl => ?_)
            refine lv_iload_n hx hb dL_isWord_72 rfl (lv_at hl 2 rfl) ?_
            refine lv_iconst (v := 2) hx hb dL_isWord_73 (by decide) ?_
            refine pu_calli (As := [.int ro, .int 2]) (rest := []) ⟨hx, hb, hml, hown, hts⟩ (c_L_product l ro 2) (va_cwS 2 hts gL_isWord_L_product rfl rfl rfl (by decide +kernel) ⟨(Nat.le_of_ble_eq_true rfl), (Nat.le_of_ble_eq_true rfl)⟩) rfl hl.1 (lv_room (Nat.le_of_ble_eq_true rfl)) dL_isWord_74 ⟨Nat.zero_le _, Nat.zero_le _⟩ hS hA rfl (fun locs hS => ?_)
            refine lv_istore_n (lv' := [(3, .int (gProd ro 2)), (2, .int (q &&& 1)), (0, .long w), (4, .int (nI k)), (5, .int z), (6, .int fa), (7, .int (nI 8))]) hx hb dL_isWord_77 rfl hl (by decide) rfl (fun ls hl => ?_)
            refine lv_iinc (v := nI (k + 1)) (lv' := [(4, .int (nI (k + 1))), (3, .int (gProd ro 2)), (2, .int (q &&& 1)), (0, .long w), (5, .int z), (6, .int fa), (7, .int (nI 8))]) hx hb dL_isWord_78 hl (k := 3) rfl (nI_1 _) (by decide) rfl (fun ls hl => ?_)
            refine lv_goto (tgt := 7) hx hb dL_isWord_81 (by decide) ?_
            exact ih (k + 1) _ _ (by omega) (by rw [Int32.and_assoc]; rfl) (by rw [gWO, ← hres_l2, gWI, if_pos c_62] at hres_l1; exact hres_l1) _ ls hS (lv_sub hl [3, 2, 1, 0] rfl)
        | succ n2 ih2 =>
          intro j z fa hk_l2  hres_l2 locs ls hS hl
          refine lv_iload hx hb dL_isWord_22 (lv_at hl 6 rfl) ?_
          refine lv_bipush (v := 8) hx hb dL_isWord_24 (by decide) ?_
          refine lv_icmp_ge (tgt := 59) hx hb dL_isWord_26 (by decide) (fun c_26 => absurd c_26 (nI_ge (a := j) (b := 8) (by omega) (by omega))) (fun c_26 => ?_)
          refine lv_iload hx hb dL_isWord_29 (lv_at hl 4 rfl) ?_
          refine lv_lload_n hx hb dL_isWord_31 rfl (lv_at hl 0 rfl) ?_
          refine lv_iload hx hb dL_isWord_32 (lv_at hl 6 rfl) ?_
          refine pu_calli (As := [.long w, .int (nI j)]) (rest := [.int z]) ⟨hx, hb, hml, hown, hts⟩ (c_L_nibble l w (nI j)) (va_cwS 2 hts gL_isWord_L_nibble rfl rfl rfl (by decide +kernel) ⟨(Nat.le_of_ble_eq_true rfl), (Nat.le_of_ble_eq_true rfl)⟩) rfl hl.1 (lv_room (Nat.le_of_ble_eq_true rfl)) dL_isWord_34 ⟨Nat.zero_le _, Nat.zero_le _⟩ hS hA rfl (fun locs hS => ?_)
          refine lv_iload hx hb dL_isWord_37 (lv_at hl 5 rfl) ?_
          refine pu_calli (As := [.int (gNib w (nI j)), .int fa]) (rest := [.int z]) ⟨hx, hb, hml, hown, hts⟩ (c_L_product l (gNib w (nI j)) fa) (va_cwS 2 hts gL_isWord_L_product rfl rfl rfl (by decide +kernel) ⟨(Nat.le_of_ble_eq_true rfl), (Nat.le_of_ble_eq_true rfl)⟩) rfl hl.1 (lv_room (Nat.le_of_ble_eq_true rfl)) dL_isWord_39 ⟨Nat.zero_le _, Nat.zero_le _⟩ hS hA rfl (fun locs hS => ?_)
          refine lv_ixor hx hb dL_isWord_42 ?_
          refine lv_istore (lv' := [(5, .int (z ^^^ (gProd (gNib w (nI j)) fa))), (0, .long w), (2, .int q), (3, .int ro), (4, .int (nI k)), (6, .int fa), (7, .int (nI j))]) hx hb dL_isWord_43 hl (by decide) rfl (fun ls hl => ?_)
          refine lv_iload hx hb dL_isWord_45 (lv_at hl 5 rfl) ?_
          refine lv_iload_n hx hb dL_isWord_47 rfl (lv_at hl 3 rfl) ?_
          refine pu_calli (As := [.int fa, .int ro]) (rest := []) ⟨hx, hb, hml, hown, hts⟩ (c_L_product l fa ro) (va_cwS 2 hts gL_isWord_L_product rfl rfl rfl (by decide +kernel) ⟨(Nat.le_of_ble_eq_true rfl), (Nat.le_of_ble_eq_true rfl)⟩) rfl hl.1 (lv_room (Nat.le_of_ble_eq_true rfl)) dL_isWord_48 ⟨Nat.zero_le _, Nat.zero_le _⟩ hS hA rfl (fun locs hS => ?_)
          refine lv_istore (lv' := [(6, .int (gProd fa ro)), (5, .int (z ^^^ (gProd (gNib w (nI j)) fa))), (0, .long w), (2, .int q), (3, .int ro), (4, .int (nI k)), (7, .int (nI j))]) hx hb dL_isWord_51 hl (by decide) rfl (fun ls hl => ?_)
          refine lv_iinc (v := nI (j + 1)) (lv' := [(7, .int (nI (j + 1))), (6, .int (gProd fa ro)), (5, .int (z ^^^ (gProd (gNib w (nI j)) fa))), (0, .long w), (2, .int q), (3, .int ro), (4, .int (nI k))]) hx hb dL_isWord_53 hl (k := 6) rfl (nI_1 _) (by decide) rfl (fun ls hl => ?_)
          refine lv_goto (tgt := 22) hx hb dL_isWord_56 (by decide) ?_
          exact ih2 (j + 1) _ _ (by omega) (by rw [gWI] at hres_l2; exact hres_l2) _ ls hS (lv_sub hl [3, 4, 5, 6, 2, 1, 0] rfl)
      refine lv_iload hx hb dL_isWord_7 (lv_at hl 3 rfl) ?_
      refine lv_iconst (v := 4) hx hb dL_isWord_9 (by decide) ?_
      refine lv_icmp_ge (tgt := 84) hx hb dL_isWord_10 (by decide) (fun c_10 => absurd c_10 (nI_ge (a := k) (b := 4) (by omega) (by omega))) (fun c_10 => ?_)
      refine lv_iconst (v := 0) hx hb dL_isWord_13 (by decide) ?_
      refine lv_istore (lv' := [(5, .int 0), (0, .long w), (2, .int q), (3, .int ro), (4, .int (nI k))]) hx hb dL_isWord_14 hl (by decide) rfl (fun ls hl => ?_)
      refine lv_iconst (v := 1) hx hb dL_isWord_16 (by decide) ?_
      refine lv_istore (lv' := [(6, .int 1), (5, .int 0), (0, .long w), (2, .int q), (3, .int ro), (4, .int (nI k))]) hx hb dL_isWord_17 hl (by decide) rfl (fun ls hl => ?_)
      refine lv_iconst (v := 0) hx hb dL_isWord_19 (by decide) ?_
      refine lv_istore (lv' := [(7, .int 0), (6, .int 1), (5, .int 0), (0, .long w), (2, .int q), (3, .int ro), (4, .int (nI k))]) hx hb dL_isWord_20 hl (by decide) rfl (fun ls hl => ?_)
      exact l2 8 0 0 1 rfl rfl _ ls hS (lv_sub hl [3, 4, 5, 6, 2, 1, 0] rfl)
  refine lv_iconst (v := 1) hx hb dL_isWord_0 (by decide) ?_
  refine lv_istore_n (lv' := [(2, .int 1), (0, .long w)]) hx hb dL_isWord_1 rfl hl (by decide) rfl (fun ls hl => ?_)
  refine lv_iconst (v := 1) hx hb dL_isWord_2 (by decide) ?_
  refine lv_istore_n (lv' := [(3, .int 1), (2, .int 1), (0, .long w)]) hx hb dL_isWord_3 rfl hl (by decide) rfl (fun ls hl => ?_)
  refine lv_iconst (v := 0) hx hb dL_isWord_4 (by decide) ?_
  refine lv_istore (lv' := [(4, .int 0), (3, .int 1), (2, .int 1), (0, .long w)]) hx hb dL_isWord_5 hl (by decide) rfl (fun ls hl => ?_)
  exact l1 4 0 1 1 rfl rfl rfl _ ls hS (lv_sub hl [3, 2, 1, 0] rfl)
end
section
/-! Methods over cells. rc_: they read the cells w, the heap stays, the answer is f. wc_: they make of the cells w the cells w', nothing new. nc: constructors: of the cells w some u with Wof u, with new cells. -/
def rc_i (l : Launch) (y : MethodName) (ws : List Cond) (rm : Room) (av : List Value) (D : va_G) (cJ : ClassId) (w : va_W) (f : Int32) : Prop := ∀ H0 : Heap, Met l y ws rm (va_Pc av (fun U => U.heap = H0 ∧ va_P D vwCl w U.heap ∧ va_K D vwCl [(cJ, .long)] U)) (va_Qi (fun (r : Int32) (_ : Unit) => r = f) (fun _ t => t.heap = H0) (fun q => H0.size ≤ q)) 0 0 (fun q => H0.size ≤ q)
def rc_l (l : Launch) (y : MethodName) (ws : List Cond) (rm : Room) (av : List Value) (D : va_G) (cJ : ClassId) (w : va_W) (f : Int64) : Prop := ∀ H0 : Heap, Met l y ws rm (va_Pc av (fun U => U.heap = H0 ∧ va_P D vwCl w U.heap ∧ va_K D vwCl [(cJ, .long)] U)) (va_Ql (fun (r : Int64) (_ : Unit) => r = f) (fun _ t => t.heap = H0) (fun q => H0.size ≤ q)) 0 0 (fun q => H0.size ≤ q)
def wPre (av : List Value) (D : va_G) (cJ : ClassId) (w : va_W) (sz : Nat) : Array Value → State → Prop := va_Pc av (fun U => U.heap.size = sz ∧ va_P D vwCl w U.heap ∧ va_K D vwCl [(cJ, .long)] U ∧ va_D (fun _ => True) w)
def wPost (D : va_G) (cJ : ClassId) (w : va_W) (sz : Nat) (u : va_W) (t : State) : Prop := va_P D vwCl u t.heap ∧ va_K D vwCl [(cJ, .long)] t ∧ va_D (va_A w sz) u
def wc_v (l : Launch) (y : MethodName) (ws : List Cond) (rm : Room) (av : List Value) (D : va_G) (cJ : ClassId) (w w' : va_W) : Prop := ∀ sz : Nat, Met l y ws rm (wPre av D cJ w sz) (va_Qv (fun u : va_W => u = w') (wPost D cJ w sz) (va_A w sz)) 0 0 (va_A w sz)
def wc_i (l : Launch) (y : MethodName) (ws : List Cond) (rm : Room) (av : List Value) (D : va_G) (cJ : ClassId) (w w' : va_W) (f : Int32) : Prop := ∀ sz : Nat, Met l y ws rm (wPre av D cJ w sz) (va_Qi (fun (r : Int32) (u : va_W) => r = f ∧ u = w') (wPost D cJ w sz) (va_A w sz)) 0 0 (va_A w sz)
def nc (l : Launch) (y : MethodName) (ws : List Cond) (rm : Room) (av : List Value) (D : va_G) (cJ : ClassId) (w : va_W) (Wof : va_W → Prop) (mc ms : Nat) : Prop := ∀ sz : Nat, Met l y ws rm (wPre av D cJ w sz) (va_Qv Wof (wPost D cJ w sz) (va_A w sz)) mc ms (va_A w sz)
theorem wPre_blind {av : List Value} {D : va_G} {cJ : ClassId} {w : va_W} {sz : Nat} : FrameBlind (wPre av D cJ w sz) := fun a U g mk q => by
  obtain ⟨q0, q1, qP, qK, qD⟩ := q
  exact ⟨q0, q1, qP, va_K.moved (u := U) (U := U.calling g mk a) (Vm.Alike.refl U.vm) qK, qD⟩
section HU
variable {p : Program} {l : Launch} {e : Env} {R : Room} {s : State} {m : MethodId} {args : Array Value} {below : List Frame} {meth : Method} {c : Code} {H : Heap} {locs : List Loc} {cells slots : Nat} {Q : State → Prop}
variable {y : MethodName} {bytes cc : ByteArray} {maxL nL n index : Nat} {ret : Option FieldType} {ws : List Cond} {rm : Room} {Ts : List Cond} {own C : String} {As rest : List Value} {pc : Nat} {ls : Array Slot} {st0 : List Value} {A0 : Nat → Prop} {H0 : Heap} {b : Nat} {D : va_G} {cJ : ClassId} {w w' wr wa wn : va_W}
theorem ru_calli {f : Int32} (S : CallFix p m c cc nL s args Ts own) (hM : rc_i l y ws rm (.ref b :: As) D cJ w f) (cw : CallW R s args own C index y bytes maxL ret ws rm 0 0 n) (hrec : ∃ cellB : Cell, H[b]? = some cellB ∧ cellB.vm.isStatics = false ∧ s.vm.findClass C = some cellB.cls) (hn : As.length = n) (hsize : ls.size = nL)
    (hW : 2 * (F0 m pc ls st0).monitorRoom + (rest.map fun v => v.category).sum ≤ 8) (hdg : decode cc pc = .ok (.invokevirtual index, 3)) (hf : cells + 0 ≤ R.cells ∧ slots + 0 ≤ R.slots) (hS : va_S A0 H0 H locs) (hA : ∀ q, H0.size ≤ q → A0 q) (hst : st0 = As.reverse ++ .ref b :: rest) (hK : va_K D vwCl [(cJ, .long)] s) (hP : va_P D vwCl w H)
    (kk : ∀ locs1 : List Loc, va_S A0 H0 H locs1 → W p l e R s m args below meth c H locs1 cells slots Q (F0 m (pc + 3) ls (.int f :: rest))) : W p l e R s m args below meth c H locs cells slots Q (F0 m pc ls st0) := by
  refine va_calli (A1 := fun q => H.size ≤ q) (va_runV S (hM H) cw ⟨fun a U g mk q => ⟨q.1, q.2.1, q.2.2.1, va_K.moved (u := U) (U := U.calling g mk a) (Vm.Alike.refl U.vm) q.2.2.2⟩, hrec, fun U hU hW => ⟨rfl, hU, by rw [hU]; exact hP, va_K.moved hW.alike hK⟩⟩ rfl hn hsize hst hW hdg hf) hS (fun q h1 h2 => absurd h1 (Nat.not_lt.mpr h2)) (fun q h => hA q (Nat.le_trans hS.1 h)) (fun r u t H1 locs1 ht hvm hp hB hz hk hS1 => ?_)
  have e1 : H1 = H := ht.symm.trans hB
  subst e1
  have e2 : r = f := hp
  subst e2
  exact kk locs1 hS1
theorem ru_calll {f : Int64} (S : CallFix p m c cc nL s args Ts own) (hM : rc_l l y ws rm (.ref b :: As) D cJ w f) (cw : CallW R s args own C index y bytes maxL ret ws rm 0 0 n) (hrec : ∃ cellB : Cell, H[b]? = some cellB ∧ cellB.vm.isStatics = false ∧ s.vm.findClass C = some cellB.cls) (hn : As.length = n) (hsize : ls.size = nL)
    (hW : 2 * (F0 m pc ls st0).monitorRoom + (rest.map fun v => v.category).sum ≤ 8) (hdg : decode cc pc = .ok (.invokevirtual index, 3)) (hf : cells + 0 ≤ R.cells ∧ slots + 0 ≤ R.slots) (hS : va_S A0 H0 H locs) (hA : ∀ q, H0.size ≤ q → A0 q) (hst : st0 = As.reverse ++ .ref b :: rest) (hK : va_K D vwCl [(cJ, .long)] s) (hP : va_P D vwCl w H)
    (kk : ∀ locs1 : List Loc, va_S A0 H0 H locs1 → W p l e R s m args below meth c H locs1 cells slots Q (F0 m (pc + 3) ls (.long f :: rest))) : W p l e R s m args below meth c H locs cells slots Q (F0 m pc ls st0) := by
  refine va_calll (A1 := fun q => H.size ≤ q) (va_runV S (hM H) cw ⟨fun a U g mk q => ⟨q.1, q.2.1, q.2.2.1, va_K.moved (u := U) (U := U.calling g mk a) (Vm.Alike.refl U.vm) q.2.2.2⟩, hrec, fun U hU hW => ⟨rfl, hU, by rw [hU]; exact hP, va_K.moved hW.alike hK⟩⟩ rfl hn hsize hst hW hdg hf) hS (fun q h1 h2 => absurd h1 (Nat.not_lt.mpr h2)) (fun q h => hA q (Nat.le_trans hS.1 h)) (fun r u t H1 locs1 ht hvm hp hB hz hk hS1 => ?_)
  have e1 : H1 = H := ht.symm.trans hB
  subst e1
  have e2 : r = f := hp
  subst e2
  exact kk locs1 hS1
/-- a writer called on an object: its cells isC of the world wa are w, the rest isR is wr; behind it the world in the order is9 is wn -/
theorem wu_callv (S : CallFix p m c cc nL s args Ts own) (hM : wc_v l y ws rm (.ref b :: As) D cJ w w') (cw : CallW R s args own C index y bytes maxL ret ws rm 0 0 n) (hrec : ∃ cellB : Cell, H[b]? = some cellB ∧ cellB.vm.isStatics = false ∧ s.vm.findClass C = some cellB.cls) (hn : As.length = n) (hsize : ls.size = nL)
    (hW : 2 * (F0 m pc ls st0).monitorRoom + (rest.map fun v => v.category).sum ≤ 8) (hdg : decode cc pc = .ok (.invokevirtual index, 3)) (hf : cells + 0 ≤ R.cells ∧ slots + 0 ≤ R.slots) (hS : va_S A0 H0 H locs) (hA : ∀ q, H0.size ≤ q → A0 q) (hst : st0 = As.reverse ++ .ref b :: rest) (hK : va_K D vwCl [(cJ, .long)] s) (hP : va_P D vwCl wa H) (hD : va_D A0 wa)
    (isC isR is9 : List Nat) (hC1 : isC.filterMap (fun i => wa[i]?) = w) (hC : isC.map (fun i => wa[i]?) = w.map some) (hCn : va_nd isC = true) (hR : isR.map (fun i => wa[i]?) = wr.map some) (hRn : va_nd isR = true) (hdis : ∀ i ∈ isR, i ∉ isC) (h9 : is9.filterMap (fun i => (wr ++ w')[i]?) = wn) (h9m : is9.map (fun i => (wr ++ w')[i]?) = wn.map some) (h9n : va_nd is9 = true)
    (kk : ∀ (H1 : Heap) (locs1 : List Loc), va_P D vwCl wn H1 → va_D A0 wn → va_S A0 H0 H1 locs1 → W p l e R s m args below meth c H1 locs1 cells slots Q (F0 m (pc + 3) ls rest)) : W p l e R s m args below meth c H locs cells slots Q (F0 m pc ls st0) := by
  have hPc := hP.sub isC hC1
  have hDc := hD.sub isC hCn hC
  have hFc := va_free hD hS hA isC hC
  refine va_callv (va_runV S (hM H.size) cw ⟨wPre_blind, hrec, fun U hU hW => ⟨rfl, by rw [hU], by rw [hU]; exact hPc, va_K.moved hW.alike hK, hDc.weaken (fun _ _ _ _ => trivial)⟩⟩ rfl hn hsize hst hW hdg hf) hS (fun q _ h => hFc q h) hFc (fun u t H1 locs1 ht hvm hp hB hz hk hS1 => ?_)
  have e2 : u = w' := hp
  subst e2
  obtain ⟨hP1, hK1, hD1⟩ := hB
  rw [ht] at hP1
  obtain ⟨hP2, hD2⟩ := va_join hP hD isC isR hC hR hRn hdis hk hFc hP1 hD1
  exact kk H1 locs1 (hP2.sub is9 h9) (hD2.sub is9 h9n h9m) hS1
theorem wu_calli {f : Int32} (S : CallFix p m c cc nL s args Ts own) (hM : wc_i l y ws rm (.ref b :: As) D cJ w w' f) (cw : CallW R s args own C index y bytes maxL ret ws rm 0 0 n) (hrec : ∃ cellB : Cell, H[b]? = some cellB ∧ cellB.vm.isStatics = false ∧ s.vm.findClass C = some cellB.cls) (hn : As.length = n) (hsize : ls.size = nL)
    (hW : 2 * (F0 m pc ls st0).monitorRoom + (rest.map fun v => v.category).sum ≤ 8) (hdg : decode cc pc = .ok (.invokevirtual index, 3)) (hf : cells + 0 ≤ R.cells ∧ slots + 0 ≤ R.slots) (hS : va_S A0 H0 H locs) (hA : ∀ q, H0.size ≤ q → A0 q) (hst : st0 = As.reverse ++ .ref b :: rest) (hK : va_K D vwCl [(cJ, .long)] s) (hP : va_P D vwCl wa H) (hD : va_D A0 wa)
    (isC isR is9 : List Nat) (hC1 : isC.filterMap (fun i => wa[i]?) = w) (hC : isC.map (fun i => wa[i]?) = w.map some) (hCn : va_nd isC = true) (hR : isR.map (fun i => wa[i]?) = wr.map some) (hRn : va_nd isR = true) (hdis : ∀ i ∈ isR, i ∉ isC) (h9 : is9.filterMap (fun i => (wr ++ w')[i]?) = wn) (h9m : is9.map (fun i => (wr ++ w')[i]?) = wn.map some) (h9n : va_nd is9 = true)
    (kk : ∀ (H1 : Heap) (locs1 : List Loc), va_P D vwCl wn H1 → va_D A0 wn → va_S A0 H0 H1 locs1 → W p l e R s m args below meth c H1 locs1 cells slots Q (F0 m (pc + 3) ls (.int f :: rest))) : W p l e R s m args below meth c H locs cells slots Q (F0 m pc ls st0) := by
  have hPc := hP.sub isC hC1
  have hDc := hD.sub isC hCn hC
  have hFc := va_free hD hS hA isC hC
  refine va_calli (va_runV S (hM H.size) cw ⟨wPre_blind, hrec, fun U hU hW => ⟨rfl, by rw [hU], by rw [hU]; exact hPc, va_K.moved hW.alike hK, hDc.weaken (fun _ _ _ _ => trivial)⟩⟩ rfl hn hsize hst hW hdg hf) hS (fun q _ h => hFc q h) hFc (fun r u t H1 locs1 ht hvm hp hB hz hk hS1 => ?_)
  obtain ⟨e1, e2⟩ : r = f ∧ u = w' := hp
  subst e1; subst e2
  obtain ⟨hP1, hK1, hD1⟩ := hB
  rw [ht] at hP1
  obtain ⟨hP2, hD2⟩ := va_join hP hD isC isR hC hR hRn hdis hk hFc hP1 hD1
  exact kk H1 locs1 (hP2.sub is9 h9) (hD2.sub is9 h9n h9m) hS1
/-- a constructor called on a new object (its cell is at isC of wa): behind it the rest wr, and what it made of it -/
theorem nu_callv {Wof : va_W → Prop} {mc ms : Nat} (S : CallFix p m c cc nL s args Ts own) (hM : nc l y ws rm (.ref b :: As) D cJ w Wof mc ms) (cw : CallB R s args own index y bytes maxL none ws rm mc ms n ∧ y.name = "<init>" ∧ (Cond.instanceMethod y).before args s = true) (hn : As.length = n) (hsize : ls.size = nL)
    (hW : 2 * (F0 m pc ls st0).monitorRoom + (rest.map fun v => v.category).sum ≤ 8) (hdg : decode cc pc = .ok (.invokespecial index, 3)) (hf : cells + mc ≤ R.cells ∧ slots + ms ≤ R.slots) (hS : va_S A0 H0 H locs) (hA : ∀ q, H0.size ≤ q → A0 q) (hst : st0 = As.reverse ++ .ref b :: rest) (hK : va_K D vwCl [(cJ, .long)] s) (hP : va_P D vwCl wa H) (hD : va_D A0 wa)
    (isC isR : List Nat) (hC1 : isC.filterMap (fun i => wa[i]?) = w) (hC : isC.map (fun i => wa[i]?) = w.map some) (hCn : va_nd isC = true) (hR : isR.map (fun i => wa[i]?) = wr.map some) (hRn : va_nd isR = true) (hdis : ∀ i ∈ isR, i ∉ isC)
    (kk : ∀ (u : va_W) (H1 : Heap) (locs1 : List Loc), Wof u → va_P D vwCl (wr ++ u) H1 → va_D A0 (wr ++ u) → va_S A0 H0 H1 locs1 → W p l e R s m args below meth c H1 locs1 (cells + mc) (slots + ms) Q (F0 m (pc + 3) ls rest)) : W p l e R s m args below meth c H locs cells slots Q (F0 m pc ls st0) := by
  have hPc := hP.sub isC hC1
  have hDc := hD.sub isC hCn hC
  have hFc := va_free hD hS hA isC hC
  refine va_callv (va_runI S (hM H.size) cw ⟨wPre_blind, fun U hU hW => ⟨rfl, by rw [hU], by rw [hU]; exact hPc, va_K.moved hW.alike hK, hDc.weaken (fun _ _ _ _ => trivial)⟩⟩ rfl hn hsize hst hW hdg hf) hS (fun q _ h => hFc q h) hFc (fun u t H1 locs1 ht hvm hp hB hz hk hS1 => ?_)
  obtain ⟨hP1, hK1, hD1⟩ := hB
  rw [ht] at hP1
  obtain ⟨hP2, hD2⟩ := va_join hP hD isC isR hC hR hRn hdis hk hFc hP1 hD1
  exact kk u H1 locs1 hp hP2 hD2 hS1
end HU
/-- the class of long[] is one -/
theorem cJ_one {D : va_G} {cJ cA : ClassId} {s : State} (h : va_K D vwCl ([(cJ, .long)] ++ [(cA, .long)]) s) : cA = cJ := by
  have h1 := (h.2 0 (cJ, .long) rfl).2
  have h2 := (h.2 1 (cA, .long) rfl).2
  exact Option.some.inj (h2.symm.trans h1)
/-- a row's numbers as they count -/
theorem row_eq {D : va_G} {w1 w2 : va_W} {a : Nat} {cJ : ClassId} {n : Nat} {f g : Nat → Int64} {H : Heap} (hfg : ∀ j, j < n → f j = g j) (h : va_P D vwCl (w1 ++ (a, .inl (cJ, n, .inr (.inl f))) :: w2) H) : va_P D vwCl (w1 ++ (a, .inl (cJ, n, .inr (.inl g))) :: w2) H := by
  intro k q hk
  rcases Nat.lt_trichotomy k w1.length with hlt | heq | hgt
  · rw [List.getElem?_append_left hlt] at hk
    exact h k q (by rw [List.getElem?_append_left hlt]; exact hk)
  · subst heq
    have h0 := h w1.length (a, .inl (cJ, n, .inr (.inl f))) (by simp)
    have hq : q = (a, .inl (cJ, n, .inr (.inl g))) := by simpa using hk.symm
    subst hq
    have h1 : H[a]? = some (arrV cJ n (fun j => .long (f j))) := h0
    show H[a]? = some (arrV cJ n (fun j => .long (g j)))
    rw [h1]
    congr 1
    unfold arrV
    congr 1
    apply Array.ext_getElem?
    intro i
    by_cases hi : i < n
    · simp [hi, hfg i hi]
    · simp [hi]
  · rw [List.getElem?_append_right (Nat.le_of_lt hgt)] at hk
    obtain ⟨j, hj⟩ : ∃ j, k - w1.length = j + 1 := ⟨k - w1.length - 1, by omega⟩
    rw [hj] at hk
    refine h k q ?_
    rw [List.getElem?_append_right (Nat.le_of_lt hgt), hj]
    exact hk
end
section
/-! Row: its array a of n numbers f -/
def fAt (n : Nat) (f : Nat → Int64) (i : Int32) : Int64 := if ¬ i < 0 ∧ ¬ nI n ≤ i then f i.toNatClampNeg else 0
def fPut (n : Nat) (f : Nat → Int64) (i : Int32) (x : Int64) : Nat → Int64 := if ¬ i < 0 ∧ ¬ nI n ≤ i then vp_updL f i.toNatClampNeg x else f
def fFil (f : Nat → Int64) (v : Int64) (k : Nat) : Nat → Int64 := fun j => if j < k then v else f j
theorem fFil_succ (f : Nat → Int64) (v : Int64) {k : Nat} (h : k < 2 ^ 31) : vp_updL (fFil f v k) (nI k).toNatClampNeg v = fFil f v (k + 1) := by
  funext j
  rw [nI_clamp h]
  simp only [vp_updL, fFil]
  by_cases h1 : j = k
  · subst h1; rw [if_pos rfl, if_pos (by omega)]
  · rw [if_neg h1]
    by_cases h2 : j < k
    · rw [if_pos h2, if_pos (by omega)]
    · rw [if_neg h2, if_neg (by omega)]
theorem fFil_0 (f : Nat → Int64) (v : Int64) : fFil f v 0 = f := by
  funext j
  simp [fFil]
theorem in_row {i : Int32} {n : Nat} (hn : n < 2 ^ 31) (h0 : ¬ i < 0) (h1 : ¬ nI n ≤ i) : vp_in i n := by
  rw [vp_in_iff]
  rw [Int32.lt_iff_toInt_lt, Int32.toInt_zero] at h0
  rw [Int32.le_iff_toInt_le, nI_toInt hn] at h1
  omega
theorem fAt_in {n : Nat} (f : Nat → Int64) {k : Nat} (hk : k < n) (hn : n < 2 ^ 31) : fAt n f (nI k) = f k := by
  rw [fAt, if_pos ⟨nI_pos (by omega), nI_ge hk hn⟩, nI_clamp (by omega)]
theorem fPut_in {n : Nat} (f : Nat → Int64) {k : Nat} (x : Int64) (hk : k < n) (hn : n < 2 ^ 31) : fPut n f (nI k) x = vp_updL f k x := by
  rw [fPut, if_pos ⟨nI_pos (by omega), nI_ge hk hn⟩, nI_clamp (by omega)]
set_option maxHeartbeats 4000000 in
set_option maxRecDepth 100000 in
theorem c_X4_at (l : Launch) (D : va_G) (cJ : ClassId) (h0 a n : Nat) (hn : n < 2 ^ 31) (f : Nat → Int64) (i : Int32) : rc_l l yX4_at wsX4_at ({ frames := 0, cells := 0, slots := 0, locals := 0 } : Room) [.ref h0, .int i] D cJ [(h0, .inr (3, [.ref a])), (a, .inl (cJ, n, .inr (.inl f)))] (fAt n f i) := by
  intro H0
  refine Met.ofW (cc := cX4_at) (maxL := 2) (ret := (some .long)) (by decide) rfl ?_
  intro p e s m args below meth c s₁ B hml hv
  obtain ⟨rfl, rfl, hP, hK⟩ := hv
  have hx := B.exec
  have hb := B.bytes
  have hr := B.returns
  have hts := atoms_spec (ws := wsX4_at) B.pre
  have hown : s.vm.findClass RX4 = some m.cls := findClass_of_methodNamed B.named
  have hlocks := B.notSynchronized
  have hS : va_S (fun q => s.heap.size ≤ q) s.heap s.heap [] := va_S.rf
  have hA : ∀ q : Nat, s.heap.size ≤ q → (fun q : Nat => s.heap.size ≤ q) q := fun _ h => h
  have hl := lv_entry ([.ref h0, .int i]) (n := 2) (Nat.le_of_ble_eq_true rfl)
  rw [lg_entry_eq]
  generalize (lg_sl ([.ref h0, .int i]) ++ List.replicate (2 - (lg_sl ([.ref h0, .int i])).length) Slot.unset).toArray = ls at hl ⊢
  have hl : lv_has ls 2 [(0, .ref h0), (1, .int i)] := hl
  refine lv_iload_n hx hb dX4_at_0 rfl (lv_at hl 1 rfl) ?_
  refine lv_if_lt (tgt := 22) hx hb dX4_at_1 (by decide) (fun c_1 => ?_) (fun c_1 => ?_)
  · refine lv_lconst (v := 0) hx hb dX4_at_22 (by decide) ?_
    exact W.lret (v := 0) hx hb hr (fun t ht hW => ⟨⟨0, (), rfl, (if_neg (fun h => h.1 c_1)).symm, ht⟩, hS.F ht⟩) hS.2.2 dX4_at_23
  · refine lv_iload_n hx hb dX4_at_4 rfl (lv_at hl 1 rfl) ?_
    refine lv_aload_n hx hb dX4_at_5 rfl (lv_at hl 0 rfl) ?_
    refine va_get (D := D) (ci := 3) (v := .ref a) (C := RX4) (T := TX4) (N := 1) hx hb hts (by decide +kernel) hown hK hP 0 rfl rfl 0 (by decide) (hts (.fieldLink RX4 7 "Shingletrack$Row" "numbers" "[J") (by decide +kernel)) (fun _ h9 => h9) rfl dX4_at_6 ?_
    refine va_alen hx hb hK hP 1 0 rfl (ty := .long) rfl (v := nI n) rfl dX4_at_9 ?_
    refine lv_icmp_ge (tgt := 22) hx hb dX4_at_10 (by decide) (fun c_10 => ?_) (fun c_10 => ?_)
    · refine lv_lconst (v := 0) hx hb dX4_at_22 (by decide) ?_
      exact W.lret (v := 0) hx hb hr (fun t ht hW => ⟨⟨0, (), rfl, (if_neg (fun h => h.2 c_10)).symm, ht⟩, hS.F ht⟩) hS.2.2 dX4_at_23
    · refine lv_aload_n hx hb dX4_at_13 rfl (lv_at hl 0 rfl) ?_
      refine va_get (D := D) (ci := 3) (v := .ref a) (C := RX4) (T := TX4) (N := 1) hx hb hts (by decide +kernel) hown hK hP 0 rfl rfl 0 (by decide) (hts (.fieldLink RX4 7 "Shingletrack$Row" "numbers" "[J") (by decide +kernel)) (fun _ h9 => h9) rfl dX4_at_14 ?_
      refine lv_iload_n hx hb dX4_at_17 rfl (lv_at hl 1 rfl) ?_
      refine va_lald (cA := cJ) (n := n) (f := f) hx hb hK hP 1 0 rfl rfl (in_row hn c_1 c_10) dX4_at_18 ?_
      refine lv_goto (tgt := 23) hx hb dX4_at_19 (by decide) ?_
      exact W.lret (v := f i.toNatClampNeg) hx hb hr (fun t ht hW => ⟨⟨f i.toNatClampNeg, (), rfl, (if_pos ⟨c_1, c_10⟩).symm, ht⟩, hS.F ht⟩) hS.2.2 dX4_at_23
set_option maxHeartbeats 4000000 in
set_option maxRecDepth 100000 in
theorem c_X4_intAt (l : Launch) (D : va_G) (cJ : ClassId) (h0 a n : Nat) (hn : n < 2 ^ 31) (f : Nat → Int64) (i : Int32) : rc_i l yX4_intAt wsX4_intAt ({ frames := 1, cells := 0, slots := 0, locals := 21 } : Room) [.ref h0, .int i] D cJ [(h0, .inr (3, [.ref a])), (a, .inl (cJ, n, .inr (.inl f)))] (fAt n f i).toInt32 := by
  intro H0
  refine Met.ofW (cc := cX4_intAt) (maxL := 2) (ret := (some .int)) (by decide) rfl ?_
  intro p e s m args below meth c s₁ B hml hv
  obtain ⟨rfl, rfl, hP, hK⟩ := hv
  have hx := B.exec
  have hb := B.bytes
  have hr := B.returns
  have hts := atoms_spec (ws := wsX4_intAt) B.pre
  have hown : s.vm.findClass RX4 = some m.cls := findClass_of_methodNamed B.named
  have hlocks := B.notSynchronized
  have hS : va_S (fun q => s.heap.size ≤ q) s.heap s.heap [] := va_S.rf
  have hA : ∀ q : Nat, s.heap.size ≤ q → (fun q : Nat => s.heap.size ≤ q) q := fun _ h => h
  have hl := lv_entry ([.ref h0, .int i]) (n := 2) (Nat.le_of_ble_eq_true rfl)
  rw [lg_entry_eq]
  generalize (lg_sl ([.ref h0, .int i]) ++ List.replicate (2 - (lg_sl ([.ref h0, .int i])).length) Slot.unset).toArray = ls at hl ⊢
  have hl : lv_has ls 2 [(0, .ref h0), (1, .int i)] := hl
  refine lv_aload_n hx hb dX4_intAt_0 rfl (lv_at hl 0 rfl) ?_
  refine lv_iload_n hx hb dX4_intAt_1 rfl (lv_at hl 1 rfl) ?_
  refine ru_calll (As := [.int i]) (rest := []) ⟨hx, hb, hml, hown, hts⟩ (c_X4_at l D cJ h0 a n hn f i) (cwV 1 hts gX4_intAt_X4_at rfl rfl rfl (by decide +kernel) ⟨(Nat.le_of_ble_eq_true rfl), (Nat.le_of_ble_eq_true rfl)⟩) (va_recv hK hP (ci := 3) (q0 := 0) rfl rfl) rfl hl.1 (lv_room (Nat.le_of_ble_eq_true rfl)) dX4_intAt_2 ⟨(Nat.le_of_ble_eq_true rfl), (Nat.le_of_ble_eq_true rfl)⟩ hS hA rfl hK (hP.sub [0, 1] rfl) (fun locs hS => ?_)
  refine lv_l2i hx hb dX4_intAt_5 rfl ?_
  exact W.iret (v := (fAt n f i).toInt32) hx hb hr (fun t ht hW => ⟨⟨(fAt n f i).toInt32, (), rfl, rfl, ht⟩, hS.F ht⟩) hS.2.2 dX4_intAt_6
set_option maxHeartbeats 4000000 in
set_option maxRecDepth 100000 in
theorem c_X4_isSet (l : Launch) (D : va_G) (cJ : ClassId) (h0 a n : Nat) (hn : n < 2 ^ 31) (f : Nat → Int64) (i : Int32) : rc_i l yX4_isSet wsX4_isSet ({ frames := 1, cells := 0, slots := 0, locals := 21 } : Room) [.ref h0, .int i] D cJ [(h0, .inr (3, [.ref a])), (a, .inl (cJ, n, .inr (.inl f)))] (if fAt n f i = 0 then 0 else 1) := by
  intro H0
  refine Met.ofW (cc := cX4_isSet) (maxL := 2) (ret := (some .boolean)) (by decide) rfl ?_
  intro p e s m args below meth c s₁ B hml hv
  obtain ⟨rfl, rfl, hP, hK⟩ := hv
  have hx := B.exec
  have hb := B.bytes
  have hr := B.returns
  have hts := atoms_spec (ws := wsX4_isSet) B.pre
  have hown : s.vm.findClass RX4 = some m.cls := findClass_of_methodNamed B.named
  have hlocks := B.notSynchronized
  have hS : va_S (fun q => s.heap.size ≤ q) s.heap s.heap [] := va_S.rf
  have hA : ∀ q : Nat, s.heap.size ≤ q → (fun q : Nat => s.heap.size ≤ q) q := fun _ h => h
  have hl := lv_entry ([.ref h0, .int i]) (n := 2) (Nat.le_of_ble_eq_true rfl)
  rw [lg_entry_eq]
  generalize (lg_sl ([.ref h0, .int i]) ++ List.replicate (2 - (lg_sl ([.ref h0, .int i])).length) Slot.unset).toArray = ls at hl ⊢
  have hl : lv_has ls 2 [(0, .ref h0), (1, .int i)] := hl
  refine lv_aload_n hx hb dX4_isSet_0 rfl (lv_at hl 0 rfl) ?_
  refine lv_iload_n hx hb dX4_isSet_1 rfl (lv_at hl 1 rfl) ?_
  refine ru_calll (As := [.int i]) (rest := []) ⟨hx, hb, hml, hown, hts⟩ (c_X4_at l D cJ h0 a n hn f i) (cwV 1 hts gX4_isSet_X4_at rfl rfl rfl (by decide +kernel) ⟨(Nat.le_of_ble_eq_true rfl), (Nat.le_of_ble_eq_true rfl)⟩) (va_recv hK hP (ci := 3) (q0 := 0) rfl rfl) rfl hl.1 (lv_room (Nat.le_of_ble_eq_true rfl)) dX4_isSet_2 ⟨(Nat.le_of_ble_eq_true rfl), (Nat.le_of_ble_eq_true rfl)⟩ hS hA rfl hK (hP.sub [0, 1] rfl) (fun locs hS => ?_)
  refine lv_lconst (v := 0) hx hb dX4_isSet_5 (by decide) ?_
  refine W.lcmp hx hb dX4_isSet_6 ?_
  refine lv_if_eq (tgt := 14) hx hb dX4_isSet_7 (by decide) (fun c_7 => ?_) (fun c_7 => ?_)
  · refine lv_iconst (v := 0) hx hb dX4_isSet_14 (by decide) ?_
    exact W.zret (v := 0) hx hb hr (by first | rfl | decide) (fun t ht hW => ⟨⟨0, (), rfl, (if_pos ((lg_cmp_eq _ _).mp c_7)).symm, ht⟩, hS.F ht⟩) hS.2.2 dX4_isSet_15
  · refine lv_iconst (v := 1) hx hb dX4_isSet_10 (by decide) ?_
    refine lv_goto (tgt := 15) hx hb dX4_isSet_11 (by decide) ?_
    exact W.zret (v := 1) hx hb hr (by first | rfl | decide) (fun t ht hW => ⟨⟨1, (), rfl, (if_neg (fun h => c_7 ((lg_cmp_eq _ _).mpr h))).symm, ht⟩, hS.F ht⟩) hS.2.2 dX4_isSet_15
set_option maxHeartbeats 4000000 in
set_option maxRecDepth 100000 in
theorem c_X4_put (l : Launch) (D : va_G) (cJ : ClassId) (h0 a n : Nat) (hn : n < 2 ^ 31) (f : Nat → Int64) (i : Int32) (x : Int64) : wc_v l yX4_put wsX4_put ({ frames := 0, cells := 0, slots := 0, locals := 0 } : Room) [.ref h0, .int i, .long x] D cJ [(h0, .inr (3, [.ref a])), (a, .inl (cJ, n, .inr (.inl f)))] [(h0, .inr (3, [.ref a])), (a, .inl (cJ, n, .inr (.inl (fPut n f i x))))] := by
  intro sz
  refine Met.ofW (cc := cX4_put) (maxL := 4) (ret := none) (by decide) rfl ?_
  intro p e s m args below meth c s₁ B hml hv
  obtain ⟨rfl, rfl, hP, hK, hD0⟩ := hv
  have hx := B.exec
  have hb := B.bytes
  have hr := B.returns
  have hts := atoms_spec (ws := wsX4_put) B.pre
  have hown : s.vm.findClass RX4 = some m.cls := findClass_of_methodNamed B.named
  have hlocks := B.notSynchronized
  have hS : va_S (va_A [(h0, .inr (3, [.ref a])), (a, .inl (cJ, n, .inr (.inl f)))] s.heap.size) s.heap s.heap [] := va_S.rf
  have hD := hD0.self (sz := s.heap.size)
  have hA : ∀ q : Nat, s.heap.size ≤ q → (va_A [(h0, .inr (3, [.ref a])), (a, .inl (cJ, n, .inr (.inl f)))] s.heap.size) q := fun _ h => Or.inr h
  have hl := lv_entry ([.ref h0, .int i, .long x]) (n := 4) (Nat.le_of_ble_eq_true rfl)
  rw [lg_entry_eq]
  generalize (lg_sl ([.ref h0, .int i, .long x]) ++ List.replicate (4 - (lg_sl ([.ref h0, .int i, .long x])).length) Slot.unset).toArray = ls at hl ⊢
  have hl : lv_has ls 4 [(0, .ref h0), (1, .int i), (2, .long x)] := hl
  have hP : va_P D vwCl [(h0, .inr (3, [.ref a])), (a, .inl (cJ, n, .inr (.inl f)))] s.heap := hP
  refine lv_iload_n hx hb dX4_put_0 rfl (lv_at hl 1 rfl) ?_
  refine lv_if_lt (tgt := 20) hx hb dX4_put_1 (by decide) (fun c_1 => ?_) (fun c_1 => ?_)
  · exact W.vret hx hb hr (fun t ht hW => ⟨⟨[(h0, .inr (3, [.ref a])), (a, .inl (cJ, n, .inr (.inl f)))], rfl, (by rw [fPut, if_neg (fun h => h.1 c_1)]), (by rw [ht]; exact hP), va_K.moved hW.alike hK, hD⟩, hS.F ht⟩) hS.2.2 dX4_put_20
  · refine lv_iload_n hx hb dX4_put_4 rfl (lv_at hl 1 rfl) ?_
    refine lv_aload_n hx hb dX4_put_5 rfl (lv_at hl 0 rfl) ?_
    refine va_get (D := D) (ci := 3) (v := .ref a) (C := RX4) (T := TX4) (N := 1) hx hb hts (by decide +kernel) hown hK hP 0 rfl rfl 0 (by decide) (hts (.fieldLink RX4 7 "Shingletrack$Row" "numbers" "[J") (by decide +kernel)) (fun _ h9 => h9) rfl dX4_put_6 ?_
    refine va_alen hx hb hK hP 1 0 rfl (ty := .long) rfl (v := nI n) rfl dX4_put_9 ?_
    refine lv_icmp_ge (tgt := 20) hx hb dX4_put_10 (by decide) (fun c_10 => ?_) (fun c_10 => ?_)
    · exact W.vret hx hb hr (fun t ht hW => ⟨⟨[(h0, .inr (3, [.ref a])), (a, .inl (cJ, n, .inr (.inl f)))], rfl, (by rw [fPut, if_neg (fun h => h.2 c_10)]), (by rw [ht]; exact hP), va_K.moved hW.alike hK, hD⟩, hS.F ht⟩) hS.2.2 dX4_put_20
    · refine lv_aload_n hx hb dX4_put_13 rfl (lv_at hl 0 rfl) ?_
      refine va_get (D := D) (ci := 3) (v := .ref a) (C := RX4) (T := TX4) (N := 1) hx hb hts (by decide +kernel) hown hK hP 0 rfl rfl 0 (by decide) (hts (.fieldLink RX4 7 "Shingletrack$Row" "numbers" "[J") (by decide +kernel)) (fun _ h9 => h9) rfl dX4_put_14 ?_
      refine lv_iload_n hx hb dX4_put_17 rfl (lv_at hl 1 rfl) ?_
      refine lv_lload_n hx hb dX4_put_18 rfl (lv_at hl 2 rfl) ?_
      refine va_last (cA := cJ) (n := n) (f := f) (x := x) hx hb hK hP hD hS 1 0 rfl rfl (in_row hn c_1 c_10) dX4_put_19 (fun H locs hP hD hS => ?_)
      have hP : va_P D vwCl [(h0, .inr (3, [.ref a])), (a, .inl (cJ, n, .inr (.inl (vp_updL f i.toNatClampNeg x))))] H := hP
      have hD : va_D (va_A [(h0, .inr (3, [.ref a])), (a, .inl (cJ, n, .inr (.inl f)))] s.heap.size) [(h0, .inr (3, [.ref a])), (a, .inl (cJ, n, .inr (.inl (vp_updL f i.toNatClampNeg x))))] := hD
      exact W.vret hx hb hr (fun t ht hW => ⟨⟨[(h0, .inr (3, [.ref a])), (a, .inl (cJ, n, .inr (.inl (vp_updL f i.toNatClampNeg x))))], rfl, (by rw [fPut, if_pos ⟨c_1, c_10⟩]), (by rw [ht]; exact hP), va_K.moved hW.alike hK, hD⟩, hS.F ht⟩) hS.2.2 dX4_put_20
set_option maxHeartbeats 4000000 in
set_option maxRecDepth 100000 in
theorem c_X4_fill (l : Launch) (D : va_G) (cJ : ClassId) (h0 a n : Nat) (hn : n < 2 ^ 31) (f : Nat → Int64) (v : Int64) : wc_v l yX4_fill wsX4_fill ({ frames := 0, cells := 0, slots := 0, locals := 0 } : Room) [.ref h0, .long v] D cJ [(h0, .inr (3, [.ref a])), (a, .inl (cJ, n, .inr (.inl f)))] [(h0, .inr (3, [.ref a])), (a, .inl (cJ, n, .inr (.inl (fFil f v n))))] := by
  intro sz
  refine Met.ofW (cc := cX4_fill) (maxL := 4) (ret := none) (by decide) rfl ?_
  intro p e s m args below meth c s₁ B hml hv
  obtain ⟨rfl, rfl, hP, hK, hD0⟩ := hv
  have hx := B.exec
  have hb := B.bytes
  have hr := B.returns
  have hts := atoms_spec (ws := wsX4_fill) B.pre
  have hown : s.vm.findClass RX4 = some m.cls := findClass_of_methodNamed B.named
  have hlocks := B.notSynchronized
  have hS : va_S (va_A [(h0, .inr (3, [.ref a])), (a, .inl (cJ, n, .inr (.inl f)))] s.heap.size) s.heap s.heap [] := va_S.rf
  have hD := hD0.self (sz := s.heap.size)
  have hA : ∀ q : Nat, s.heap.size ≤ q → (va_A [(h0, .inr (3, [.ref a])), (a, .inl (cJ, n, .inr (.inl f)))] s.heap.size) q := fun _ h => Or.inr h
  have hl := lv_entry ([.ref h0, .long v]) (n := 4) (Nat.le_of_ble_eq_true rfl)
  rw [lg_entry_eq]
  generalize (lg_sl ([.ref h0, .long v]) ++ List.replicate (4 - (lg_sl ([.ref h0, .long v])).length) Slot.unset).toArray = ls at hl ⊢
  have hl : lv_has ls 4 [(0, .ref h0), (1, .long v)] := hl
  have hP : va_P D vwCl [(h0, .inr (3, [.ref a])), (a, .inl (cJ, n, .inr (.inl f)))] s.heap := hP
  have l1 : ∀ (nn k : Nat) , k + nn = n → ∀ (H : Heap) (locs : List Loc) (ls : Array Slot), va_P D vwCl [(h0, .inr (3, [.ref a])), (a, .inl (cJ, n, .inr (.inl (fFil f v k))))] H → va_D (va_A [(h0, .inr (3, [.ref a])), (a, .inl (cJ, n, .inr (.inl f)))] s.heap.size) [(h0, .inr (3, [.ref a])), (a, .inl (cJ, n, .inr (.inl (fFil f v k))))] → va_S (va_A [(h0, .inr (3, [.ref a])), (a, .inl (cJ, n, .inr (.inl f)))] s.heap.size) s.heap H locs → lv_has ls 4 [(0, .ref h0), (1, .long v), (3, .int (nI k))] → W p l e (headSpec wsX4_fill ({ frames := 0, cells := 0, slots := 0, locals := 0 } : Room)).room s m ([.ref h0, .long v] : List Value).toArray below meth c H locs 0 0 (MQ below (va_Qv (fun u : va_W => u = [(h0, .inr (3, [.ref a])), (a, .inl (cJ, n, .inr (.inl (fFil f v n))))]) (wPost D cJ [(h0, .inr (3, [.ref a])), (a, .inl (cJ, n, .inr (.inl f)))] s.heap.size) (va_A [(h0, .inr (3, [.ref a])), (a, .inl (cJ, n, .inr (.inl f)))] s.heap.size)) ([.ref h0, .long v] : List Value).toArray s 0 0 (va_A [(h0, .inr (3, [.ref a])), (a, .inl (cJ, n, .inr (.inl f)))] s.heap.size)) (F0 m 2 ls []) := by
    intro nn
    induction nn with
    | zero =>
      intro k  hk_l1   H locs ls hP hD hS hl
      obtain rfl : n = k := by omega
      refine lv_iload_n hx hb dX4_fill_2 rfl (lv_at hl 2 rfl) ?_
      refine lv_aload_n hx hb dX4_fill_3 rfl (lv_at hl 0 rfl) ?_
      refine va_get (D := D) (ci := 3) (v := .ref a) (C := RX4) (T := TX4) (N := 1) hx hb hts (by decide +kernel) hown hK hP 0 rfl rfl 0 (by decide) (hts (.fieldLink RX4 7 "Shingletrack$Row" "numbers" "[J") (by decide +kernel)) (fun _ h9 => h9) rfl dX4_fill_4 ?_
      refine va_alen hx hb hK hP 1 0 rfl (ty := .long) rfl (v := nI n) rfl dX4_fill_7 ?_
      refine lv_icmp_ge (tgt := 24) hx hb dX4_fill_8 (by decide) (fun c_8 => ?_) (fun c_8 => absurd c_8 (fun h => h (Int32.le_refl _)))
      exact W.vret hx hb hr (fun t ht hW => ⟨⟨[(h0, .inr (3, [.ref a])), (a, .inl (cJ, n, .inr (.inl (fFil f v n))))], rfl, rfl, (by rw [ht]; exact hP), va_K.moved hW.alike hK, hD⟩, hS.F ht⟩) hS.2.2 dX4_fill_24
    | succ nn ih =>
      intro k  hk_l1   H locs ls hP hD hS hl
      refine lv_iload_n hx hb dX4_fill_2 rfl (lv_at hl 2 rfl) ?_
      refine lv_aload_n hx hb dX4_fill_3 rfl (lv_at hl 0 rfl) ?_
      refine va_get (D := D) (ci := 3) (v := .ref a) (C := RX4) (T := TX4) (N := 1) hx hb hts (by decide +kernel) hown hK hP 0 rfl rfl 0 (by decide) (hts (.fieldLink RX4 7 "Shingletrack$Row" "numbers" "[J") (by decide +kernel)) (fun _ h9 => h9) rfl dX4_fill_4 ?_
      refine va_alen hx hb hK hP 1 0 rfl (ty := .long) rfl (v := nI n) rfl dX4_fill_7 ?_
      refine lv_icmp_ge (tgt := 24) hx hb dX4_fill_8 (by decide) (fun c_8 => absurd c_8 (nI_ge (a := k) (b := n) (by omega) (by omega))) (fun c_8 => ?_)
      refine lv_aload_n hx hb dX4_fill_11 rfl (lv_at hl 0 rfl) ?_
      refine va_get (D := D) (ci := 3) (v := .ref a) (C := RX4) (T := TX4) (N := 1) hx hb hts (by decide +kernel) hown hK hP 0 rfl rfl 0 (by decide) (hts (.fieldLink RX4 7 "Shingletrack$Row" "numbers" "[J") (by decide +kernel)) (fun _ h9 => h9) rfl dX4_fill_12 ?_
      refine lv_iload_n hx hb dX4_fill_15 rfl (lv_at hl 2 rfl) ?_
      refine lv_lload_n hx hb dX4_fill_16 rfl (lv_at hl 1 rfl) ?_
      refine va_last (cA := cJ) (n := n) (f := fFil f v k) (x := v) hx hb hK hP hD hS 1 0 rfl rfl (vp_in_nI (by omega) (by omega)) dX4_fill_17 (fun H locs hP hD hS => ?_)
      have hP : va_P D vwCl [(h0, .inr (3, [.ref a])), (a, .inl (cJ, n, .inr (.inl (vp_updL (fFil f v k) ((nI k).toNatClampNeg) v))))] H := hP
      have hD : va_D (va_A [(h0, .inr (3, [.ref a])), (a, .inl (cJ, n, .inr (.inl f)))] s.heap.size) [(h0, .inr (3, [.ref a])), (a, .inl (cJ, n, .inr (.inl (vp_updL (fFil f v k) ((nI k).toNatClampNeg) v))))] := hD
      refine lv_iinc (v := nI (k + 1)) (lv' := [(3, .int (nI (k + 1))), (0, .ref h0), (1, .long v)]) hx hb dX4_fill_18 hl (k := 2) rfl (nI_1 _) (by decide) rfl (fun ls hl => ?_)
      refine lv_goto (tgt := 2) hx hb dX4_fill_21 (by decide) ?_
      rw [fFil_succ f v (by omega)] at hP hD
      exact ih (k + 1) (by omega) _ _ ls hP hD hS (lv_sub hl [1, 2, 0] rfl)
  have hP : va_P D vwCl [(h0, .inr (3, [.ref a])), (a, .inl (cJ, n, .inr (.inl (fFil f v 0))))] s.heap := by rw [fFil_0]; exact hP
  have hD : va_D (va_A [(h0, .inr (3, [.ref a])), (a, .inl (cJ, n, .inr (.inl f)))] s.heap.size) [(h0, .inr (3, [.ref a])), (a, .inl (cJ, n, .inr (.inl (fFil f v 0))))] := by rw [fFil_0]; exact hD
  refine lv_iconst (v := 0) hx hb dX4_fill_0 (by decide) ?_
  refine lv_istore_n (lv' := [(3, .int 0), (0, .ref h0), (1, .long v)]) hx hb dX4_fill_1 rfl hl (by decide) rfl (fun ls hl => ?_)
  exact l1 n 0 (Nat.zero_add n) _ _ ls hP hD hS (lv_sub hl [1, 2, 0] rfl)
set_option maxHeartbeats 4000000 in
set_option maxRecDepth 100000 in
theorem c_X4_init (l : Launch) (D : va_G) (cJ : ClassId) (h0 n : Nat) (hn : n ≤ 1000) : nc l yX4_init wsX4_init ({ frames := 1, cells := 1, slots := n, locals := 12 } : Room) [.ref h0, .int (nI n)] D cJ [(h0, .inr (3, [.null]))] (fun u => ∃ a : Nat, u = [(h0, .inr (3, [.ref a])), (a, .inl (cJ, n, .inr (.inl (fun _ => 0))))]) 1 n := by
  intro sz
  refine Met.ofW (cc := cX4_init) (maxL := 2) (ret := none) (by decide) rfl ?_
  intro p e s m args below meth c s₁ B hml hv
  obtain ⟨rfl, rfl, hP, hK, hD0⟩ := hv
  have hx := B.exec
  have hb := B.bytes
  have hr := B.returns
  have hts := atoms_spec (ws := wsX4_init) B.pre
  have hown : s.vm.findClass RX4 = some m.cls := findClass_of_methodNamed B.named
  have hlocks := B.notSynchronized
  have hin : meth.name = "<init>" := (name_of_methodNamed B.named B.method).1
  have hS : va_S (va_A [(h0, .inr (3, [.null]))] s.heap.size) s.heap s.heap [] := va_S.rf
  have hD := hD0.self (sz := s.heap.size)
  have hA : ∀ q : Nat, s.heap.size ≤ q → (va_A [(h0, .inr (3, [.null]))] s.heap.size) q := fun _ h => Or.inr h
  have hl := lv_entry ([.ref h0, .int (nI n)]) (n := 2) (Nat.le_of_ble_eq_true rfl)
  rw [lg_entry_eq]
  generalize (lg_sl ([.ref h0, .int (nI n)]) ++ List.replicate (2 - (lg_sl ([.ref h0, .int (nI n)])).length) Slot.unset).toArray = ls at hl ⊢
  have hl : lv_has ls 2 [(0, .ref h0), (1, .int (nI n))] := hl
  have hP : va_P D vwCl [(h0, .inr (3, [.null]))] s.heap := hP
  refine lv_aload_n hx hb dX4_init_0 rfl (lv_at hl 0 rfl) ?_
  refine W.objInit hx hb hown (hts (.methodLink RX4 1 objectInit) (by decide +kernel)) (hts (.instanceMethod objectInit) (by decide +kernel)) (hts _ (List.mem_of_getElem? (i := 3) rfl)) rfl (by rw [hml]; exact hl.1) rfl dX4_init_1 (Nat.le_of_ble_eq_true rfl) (Nat.le_of_ble_eq_true rfl) ?_
  refine W.eq (g2 := F0 m 4 ls []) rfl ?_
  refine lv_aload_n hx hb dX4_init_4 rfl (lv_at hl 0 rfl) ?_
  refine lv_iload_n hx hb dX4_init_5 rfl (lv_at hl 1 rfl) ?_
  refine lv_if_ge (tgt := 13) hx hb dX4_init_6 (by decide) (fun c_6 => ?_) (fun c_6 => absurd c_6 (fun h => h (nI_pos' (by omega))))
  refine lv_iload_n hx hb dX4_init_13 rfl (lv_at hl 1 rfl) ?_
  refine va_newa (atype := .long) (ty := .long) hx hb (hts (.arrayClass .long) (by decide +kernel)) rfl hK hP hD hS hA (N' := n) (a0 := (n, .inr (.inl (fun _ => 0)))) (fun cA => rfl) (nI_pos (by omega)) (nI_clamp (by omega)) (by show n * 8 ≤ _; omega) (Nat.le_of_ble_eq_true rfl) (by show 0 + n ≤ n; omega) dX4_init_14 (fun q14 cA H hK2 hP hD hS => ?_)
  obtain rfl := cJ_one hK2
  refine W.widen (k := 1) (n := n) (by omega) (by omega) ?_
  have hP : va_P D vwCl [(h0, .inr (3, [.null])), (q14, .inl (cA, n, .inr (.inl (fun _ => 0))))] H := hP
  have hD : va_D (va_A [(h0, .inr (3, [.null]))] s.heap.size) [(h0, .inr (3, [.null])), (q14, .inl (cA, n, .inr (.inl (fun _ => 0))))] := hD
  refine va_putF (D := D) (ci := 3) (v := .ref q14) (ty := .array .long) (C := RX4) (T := TX4) (N := 1) hx hb hts (by decide +kernel) tyX4 tyX4_ok nmX4 hown hK hP hD hS 0 rfl rfl 0 (by decide) (hts (.fieldLink RX4 7 "Shingletrack$Row" "numbers" "[J") (by decide +kernel)) (fun _ h9 => h9) rfl hin rfl (by decide +kernel) rfl rfl (Nat.le_of_ble_eq_true rfl) dX4_init_16 (fun H locs hP hD hS => ?_)
  have hP : va_P D vwCl [(h0, .inr (3, [.ref q14])), (q14, .inl (cA, n, .inr (.inl (fun _ => 0))))] H := hP
  have hD : va_D (va_A [(h0, .inr (3, [.null]))] s.heap.size) [(h0, .inr (3, [.ref q14])), (q14, .inl (cA, n, .inr (.inl (fun _ => 0))))] := hD
  exact W.vret hx hb hr (fun t ht hW => ⟨⟨_, rfl, ⟨q14, rfl⟩, (by rw [ht]; exact hP), va_K.moved hW.alike hK, hD⟩, hS.F ht⟩) hS.2.2 dX4_init_19
end
section
set_option maxHeartbeats 4000000 in
set_option maxRecDepth 100000 in
theorem c_X2_init (l : Launch) (D : va_G) (cJ : ClassId) (h0 : Nat) : nc l yX2_init wsX2_init ({ frames := 2, cells := 10, slots := 33, locals := 33 } : Room) [.ref h0] D cJ [(h0, .inr (1, [.null, .int 0, .null, .null, .null, .null]))] (fun u => ∃ v1 v2 v3 v4 v5 v6 v7 v8 v9 v10 : Nat, u = [(h0, .inr (1, [.ref v1, .int 0, .ref v3, .ref v5, .ref v7, .ref v9])), (v1, .inr (3, [.ref v2])), (v2, .inl (cJ, 12, .inr (.inl (fun _ => 0)))), (v3, .inr (3, [.ref v4])), (v4, .inl (cJ, 4, .inr (.inl (fun _ => 0)))), (v5, .inr (3, [.ref v6])), (v6, .inl (cJ, 4, .inr (.inl (fun _ => 0)))), (v7, .inr (3, [.ref v8])), (v8, .inl (cJ, 4, .inr (.inl (fun _ => 0)))), (v9, .inr (3, [.ref v10])), (v10, .inl (cJ, 4, .inr (.inl (fun _ => 0))))]) 10 33 := by
  intro sz
  refine Met.ofW (cc := cX2_init) (maxL := 1) (ret := none) (by decide) rfl ?_
  intro p e s m args below meth c s₁ B hml hv
  obtain ⟨rfl, rfl, hP, hK, hD0⟩ := hv
  have hx := B.exec
  have hb := B.bytes
  have hr := B.returns
  have hts := atoms_spec (ws := wsX2_init) B.pre
  have hown : s.vm.findClass RX2 = some m.cls := findClass_of_methodNamed B.named
  have hlocks := B.notSynchronized
  have hin : meth.name = "<init>" := (name_of_methodNamed B.named B.method).1
  have hS : va_S (va_A [(h0, .inr (1, [.null, .int 0, .null, .null, .null, .null]))] s.heap.size) s.heap s.heap [] := va_S.rf
  have hD := hD0.self (sz := s.heap.size)
  have hA : ∀ q : Nat, s.heap.size ≤ q → (va_A [(h0, .inr (1, [.null, .int 0, .null, .null, .null, .null]))] s.heap.size) q := fun _ h => Or.inr h
  have hl := lv_entry ([.ref h0]) (n := 1) (Nat.le_of_ble_eq_true rfl)
  rw [lg_entry_eq]
  generalize (lg_sl ([.ref h0]) ++ List.replicate (1 - (lg_sl ([.ref h0])).length) Slot.unset).toArray = ls at hl ⊢
  have hl : lv_has ls 1 [(0, .ref h0)] := hl
  have hP : va_P D vwCl [(h0, .inr (1, [.null, .int 0, .null, .null, .null, .null]))] s.heap := hP
  refine lv_aload_n hx hb dX2_init_0 rfl (lv_at hl 0 rfl) ?_
  refine W.objInit hx hb hown (hts (.methodLink RX2 3 objectInit) (by decide +kernel)) (hts (.instanceMethod objectInit) (by decide +kernel)) (hts _ (List.mem_of_getElem? (i := 3) rfl)) rfl (by rw [hml]; exact hl.1) rfl dX2_init_1 (Nat.le_of_ble_eq_true rfl) (Nat.le_of_ble_eq_true rfl) ?_
  refine W.eq (g2 := F0 m 4 ls []) rfl ?_
  refine lv_aload_n hx hb dX2_init_4 rfl (lv_at hl 0 rfl) ?_
  refine va_new (ci := 3) (fs := [.null]) (C := RX4) (T := TX4) (N := 1) hx hb hts (by decide +kernel) tyX4 tyX4_ok hown (hts (.classLink RX2 9 RX4) (by decide +kernel)) (hts (.instantiable RX4 1) (by decide +kernel)) (hts (.initialized RX4) (by decide +kernel)) hK hP hD hS hA rfl (fun j hj => by rcases (show j = 0 by omega) with rfl <;> rfl) (Nat.le_of_ble_eq_true rfl) (Nat.le_of_ble_eq_true rfl) dX2_init_5 (fun q5 H hP hD hS => ?_)
  have hP : va_P D vwCl [(h0, .inr (1, [.null, .int 0, .null, .null, .null, .null])), (q5, .inr (3, [.null]))] H := hP
  have hD : va_D (va_A [(h0, .inr (1, [.null, .int 0, .null, .null, .null, .null]))] s.heap.size) [(h0, .inr (1, [.null, .int 0, .null, .null, .null, .null])), (q5, .inr (3, [.null]))] := hD
  refine W.widen (k := 1) (n := 1) (by omega) (by omega) ?_
  refine lv_dup hx hb dX2_init_8 rfl ?_
  refine lv_bipush (v := 12) hx hb dX2_init_9 (by decide) ?_
  refine nu_callv (As := [.int 12]) (rest := [.ref q5, .ref h0]) (wr := [(h0, .inr (1, [.null, .int 0, .null, .null, .null, .null]))]) ⟨hx, hb, hml, hown, hts⟩ (c_X4_init l D cJ q5 12 (by decide)) (cwI 1 hts gX2_init_X4_init rfl rfl rfl (hts (.initialized RX4) (by decide +kernel)) (hts (.methodLink RX2 11 yX4_init) (by decide +kernel)) (hts (.instanceMethod yX4_init) (by decide +kernel)) rfl (by decide +kernel) ⟨(Nat.le_of_ble_eq_true rfl), (Nat.le_of_ble_eq_true rfl)⟩) rfl hl.1 (lv_room (Nat.le_of_ble_eq_true rfl)) dX2_init_11 ⟨(Nat.le_of_ble_eq_true rfl), (Nat.le_of_ble_eq_true rfl)⟩ hS hA rfl hK hP hD [1] [0] rfl rfl (by decide) rfl (by decide) (by decide) (fun u H locs hw hP hD hS => ?_)
  obtain ⟨a1, rfl⟩ := hw
  have hP : va_P D vwCl [(h0, .inr (1, [.null, .int 0, .null, .null, .null, .null])), (q5, .inr (3, [.ref a1])), (a1, .inl (cJ, 12, .inr (.inl (fun _ => 0))))] H := hP
  have hD : va_D (va_A [(h0, .inr (1, [.null, .int 0, .null, .null, .null, .null]))] s.heap.size) [(h0, .inr (1, [.null, .int 0, .null, .null, .null, .null])), (q5, .inr (3, [.ref a1])), (a1, .inl (cJ, 12, .inr (.inl (fun _ => 0))))] := hD
  refine W.widen (k := 2) (n := 13) (by omega) (by omega) ?_
  refine va_putF (D := D) (ci := 1) (v := .ref q5) (ty := .object "Shingletrack$Row") (C := RX2) (T := TX2) (N := 6) hx hb hts (by decide +kernel) tyX2 tyX2_ok nmX2 hown hK hP hD hS 0 rfl rfl 0 (by decide) (hts (.fieldLink RX2 14 "Shingletrack$Channel" "samples" "LShingletrack$Row;") (by decide +kernel)) (fun _ h9 => h9) rfl hin rfl (by decide +kernel) rfl rfl (Nat.le_of_ble_eq_true rfl) dX2_init_14 (fun H locs hP hD hS => ?_)
  have hP : va_P D vwCl [(h0, .inr (1, [.ref q5, .int 0, .null, .null, .null, .null])), (q5, .inr (3, [.ref a1])), (a1, .inl (cJ, 12, .inr (.inl (fun _ => 0))))] H := hP
  have hD : va_D (va_A [(h0, .inr (1, [.null, .int 0, .null, .null, .null, .null]))] s.heap.size) [(h0, .inr (1, [.ref q5, .int 0, .null, .null, .null, .null])), (q5, .inr (3, [.ref a1])), (a1, .inl (cJ, 12, .inr (.inl (fun _ => 0))))] := hD
  refine lv_aload_n hx hb dX2_init_17 rfl (lv_at hl 0 rfl) ?_
  refine lv_iconst (v := 0) hx hb dX2_init_18 (by decide) ?_
  refine va_put (D := D) (ci := 1) (v := .int 0) (ty := .int) (C := RX2) (T := TX2) (N := 6) hx hb hts (by decide +kernel) tyX2 tyX2_ok nmX2 hown hK hP hD hS 0 rfl rfl 1 (by decide) (hts (.fieldLink RX2 20 "Shingletrack$Channel" "samplesThere" "I") (by decide +kernel)) (fun _ h9 => h9) rfl (by decide +kernel) rfl rfl (Nat.le_of_ble_eq_true rfl) dX2_init_19 (fun H locs hP hD hS => ?_)
  have hP : va_P D vwCl [(h0, .inr (1, [.ref q5, .int 0, .null, .null, .null, .null])), (q5, .inr (3, [.ref a1])), (a1, .inl (cJ, 12, .inr (.inl (fun _ => 0))))] H := hP
  have hD : va_D (va_A [(h0, .inr (1, [.null, .int 0, .null, .null, .null, .null]))] s.heap.size) [(h0, .inr (1, [.ref q5, .int 0, .null, .null, .null, .null])), (q5, .inr (3, [.ref a1])), (a1, .inl (cJ, 12, .inr (.inl (fun _ => 0))))] := hD
  refine lv_aload_n hx hb dX2_init_22 rfl (lv_at hl 0 rfl) ?_
  refine va_new (ci := 3) (fs := [.null]) (C := RX4) (T := TX4) (N := 1) hx hb hts (by decide +kernel) tyX4 tyX4_ok hown (hts (.classLink RX2 9 RX4) (by decide +kernel)) (hts (.instantiable RX4 1) (by decide +kernel)) (hts (.initialized RX4) (by decide +kernel)) hK hP hD hS hA rfl (fun j hj => by rcases (show j = 0 by omega) with rfl <;> rfl) (Nat.le_of_ble_eq_true rfl) (Nat.le_of_ble_eq_true rfl) dX2_init_23 (fun q23 H hP hD hS => ?_)
  have hP : va_P D vwCl [(h0, .inr (1, [.ref q5, .int 0, .null, .null, .null, .null])), (q5, .inr (3, [.ref a1])), (a1, .inl (cJ, 12, .inr (.inl (fun _ => 0)))), (q23, .inr (3, [.null]))] H := hP
  have hD : va_D (va_A [(h0, .inr (1, [.null, .int 0, .null, .null, .null, .null]))] s.heap.size) [(h0, .inr (1, [.ref q5, .int 0, .null, .null, .null, .null])), (q5, .inr (3, [.ref a1])), (a1, .inl (cJ, 12, .inr (.inl (fun _ => 0)))), (q23, .inr (3, [.null]))] := hD
  refine W.widen (k := 3) (n := 14) (by omega) (by omega) ?_
  refine lv_dup hx hb dX2_init_26 rfl ?_
  refine lv_iconst (v := 4) hx hb dX2_init_27 (by decide) ?_
  refine nu_callv (As := [.int 4]) (rest := [.ref q23, .ref h0]) (wr := [(h0, .inr (1, [.ref q5, .int 0, .null, .null, .null, .null])), (q5, .inr (3, [.ref a1])), (a1, .inl (cJ, 12, .inr (.inl (fun _ => 0))))]) ⟨hx, hb, hml, hown, hts⟩ (c_X4_init l D cJ q23 4 (by decide)) (cwI 1 hts gX2_init_X4_init rfl rfl rfl (hts (.initialized RX4) (by decide +kernel)) (hts (.methodLink RX2 11 yX4_init) (by decide +kernel)) (hts (.instanceMethod yX4_init) (by decide +kernel)) rfl (by decide +kernel) ⟨(Nat.le_of_ble_eq_true rfl), (Nat.le_of_ble_eq_true rfl)⟩) rfl hl.1 (lv_room (Nat.le_of_ble_eq_true rfl)) dX2_init_28 ⟨(Nat.le_of_ble_eq_true rfl), (Nat.le_of_ble_eq_true rfl)⟩ hS hA rfl hK hP hD [3] [0, 1, 2] rfl rfl (by decide) rfl (by decide) (by decide) (fun u H locs hw hP hD hS => ?_)
  obtain ⟨a2, rfl⟩ := hw
  have hP : va_P D vwCl [(h0, .inr (1, [.ref q5, .int 0, .null, .null, .null, .null])), (q5, .inr (3, [.ref a1])), (a1, .inl (cJ, 12, .inr (.inl (fun _ => 0)))), (q23, .inr (3, [.ref a2])), (a2, .inl (cJ, 4, .inr (.inl (fun _ => 0))))] H := hP
  have hD : va_D (va_A [(h0, .inr (1, [.null, .int 0, .null, .null, .null, .null]))] s.heap.size) [(h0, .inr (1, [.ref q5, .int 0, .null, .null, .null, .null])), (q5, .inr (3, [.ref a1])), (a1, .inl (cJ, 12, .inr (.inl (fun _ => 0)))), (q23, .inr (3, [.ref a2])), (a2, .inl (cJ, 4, .inr (.inl (fun _ => 0))))] := hD
  refine W.widen (k := 4) (n := 18) (by omega) (by omega) ?_
  refine va_putF (D := D) (ci := 1) (v := .ref q23) (ty := .object "Shingletrack$Row") (C := RX2) (T := TX2) (N := 6) hx hb hts (by decide +kernel) tyX2 tyX2_ok nmX2 hown hK hP hD hS 0 rfl rfl 2 (by decide) (hts (.fieldLink RX2 24 "Shingletrack$Channel" "squares" "LShingletrack$Row;") (by decide +kernel)) (fun _ h9 => h9) rfl hin rfl (by decide +kernel) rfl rfl (Nat.le_of_ble_eq_true rfl) dX2_init_31 (fun H locs hP hD hS => ?_)
  have hP : va_P D vwCl [(h0, .inr (1, [.ref q5, .int 0, .ref q23, .null, .null, .null])), (q5, .inr (3, [.ref a1])), (a1, .inl (cJ, 12, .inr (.inl (fun _ => 0)))), (q23, .inr (3, [.ref a2])), (a2, .inl (cJ, 4, .inr (.inl (fun _ => 0))))] H := hP
  have hD : va_D (va_A [(h0, .inr (1, [.null, .int 0, .null, .null, .null, .null]))] s.heap.size) [(h0, .inr (1, [.ref q5, .int 0, .ref q23, .null, .null, .null])), (q5, .inr (3, [.ref a1])), (a1, .inl (cJ, 12, .inr (.inl (fun _ => 0)))), (q23, .inr (3, [.ref a2])), (a2, .inl (cJ, 4, .inr (.inl (fun _ => 0))))] := hD
  refine lv_aload_n hx hb dX2_init_34 rfl (lv_at hl 0 rfl) ?_
  refine va_new (ci := 3) (fs := [.null]) (C := RX4) (T := TX4) (N := 1) hx hb hts (by decide +kernel) tyX4 tyX4_ok hown (hts (.classLink RX2 9 RX4) (by decide +kernel)) (hts (.instantiable RX4 1) (by decide +kernel)) (hts (.initialized RX4) (by decide +kernel)) hK hP hD hS hA rfl (fun j hj => by rcases (show j = 0 by omega) with rfl <;> rfl) (Nat.le_of_ble_eq_true rfl) (Nat.le_of_ble_eq_true rfl) dX2_init_35 (fun q35 H hP hD hS => ?_)
  have hP : va_P D vwCl [(h0, .inr (1, [.ref q5, .int 0, .ref q23, .null, .null, .null])), (q5, .inr (3, [.ref a1])), (a1, .inl (cJ, 12, .inr (.inl (fun _ => 0)))), (q23, .inr (3, [.ref a2])), (a2, .inl (cJ, 4, .inr (.inl (fun _ => 0)))), (q35, .inr (3, [.null]))] H := hP
  have hD : va_D (va_A [(h0, .inr (1, [.null, .int 0, .null, .null, .null, .null]))] s.heap.size) [(h0, .inr (1, [.ref q5, .int 0, .ref q23, .null, .null, .null])), (q5, .inr (3, [.ref a1])), (a1, .inl (cJ, 12, .inr (.inl (fun _ => 0)))), (q23, .inr (3, [.ref a2])), (a2, .inl (cJ, 4, .inr (.inl (fun _ => 0)))), (q35, .inr (3, [.null]))] := hD
  refine W.widen (k := 5) (n := 19) (by omega) (by omega) ?_
  refine lv_dup hx hb dX2_init_38 rfl ?_
  refine lv_iconst (v := 4) hx hb dX2_init_39 (by decide) ?_
  refine nu_callv (As := [.int 4]) (rest := [.ref q35, .ref h0]) (wr := [(h0, .inr (1, [.ref q5, .int 0, .ref q23, .null, .null, .null])), (q5, .inr (3, [.ref a1])), (a1, .inl (cJ, 12, .inr (.inl (fun _ => 0)))), (q23, .inr (3, [.ref a2])), (a2, .inl (cJ, 4, .inr (.inl (fun _ => 0))))]) ⟨hx, hb, hml, hown, hts⟩ (c_X4_init l D cJ q35 4 (by decide)) (cwI 1 hts gX2_init_X4_init rfl rfl rfl (hts (.initialized RX4) (by decide +kernel)) (hts (.methodLink RX2 11 yX4_init) (by decide +kernel)) (hts (.instanceMethod yX4_init) (by decide +kernel)) rfl (by decide +kernel) ⟨(Nat.le_of_ble_eq_true rfl), (Nat.le_of_ble_eq_true rfl)⟩) rfl hl.1 (lv_room (Nat.le_of_ble_eq_true rfl)) dX2_init_40 ⟨(Nat.le_of_ble_eq_true rfl), (Nat.le_of_ble_eq_true rfl)⟩ hS hA rfl hK hP hD [5] [0, 1, 2, 3, 4] rfl rfl (by decide) rfl (by decide) (by decide) (fun u H locs hw hP hD hS => ?_)
  obtain ⟨a3, rfl⟩ := hw
  have hP : va_P D vwCl [(h0, .inr (1, [.ref q5, .int 0, .ref q23, .null, .null, .null])), (q5, .inr (3, [.ref a1])), (a1, .inl (cJ, 12, .inr (.inl (fun _ => 0)))), (q23, .inr (3, [.ref a2])), (a2, .inl (cJ, 4, .inr (.inl (fun _ => 0)))), (q35, .inr (3, [.ref a3])), (a3, .inl (cJ, 4, .inr (.inl (fun _ => 0))))] H := hP
  have hD : va_D (va_A [(h0, .inr (1, [.null, .int 0, .null, .null, .null, .null]))] s.heap.size) [(h0, .inr (1, [.ref q5, .int 0, .ref q23, .null, .null, .null])), (q5, .inr (3, [.ref a1])), (a1, .inl (cJ, 12, .inr (.inl (fun _ => 0)))), (q23, .inr (3, [.ref a2])), (a2, .inl (cJ, 4, .inr (.inl (fun _ => 0)))), (q35, .inr (3, [.ref a3])), (a3, .inl (cJ, 4, .inr (.inl (fun _ => 0))))] := hD
  refine W.widen (k := 6) (n := 23) (by omega) (by omega) ?_
  refine va_putF (D := D) (ci := 1) (v := .ref q35) (ty := .object "Shingletrack$Row") (C := RX2) (T := TX2) (N := 6) hx hb hts (by decide +kernel) tyX2 tyX2_ok nmX2 hown hK hP hD hS 0 rfl rfl 3 (by decide) (hts (.fieldLink RX2 27 "Shingletrack$Channel" "numbers" "LShingletrack$Row;") (by decide +kernel)) (fun _ h9 => h9) rfl hin rfl (by decide +kernel) rfl rfl (Nat.le_of_ble_eq_true rfl) dX2_init_43 (fun H locs hP hD hS => ?_)
  have hP : va_P D vwCl [(h0, .inr (1, [.ref q5, .int 0, .ref q23, .ref q35, .null, .null])), (q5, .inr (3, [.ref a1])), (a1, .inl (cJ, 12, .inr (.inl (fun _ => 0)))), (q23, .inr (3, [.ref a2])), (a2, .inl (cJ, 4, .inr (.inl (fun _ => 0)))), (q35, .inr (3, [.ref a3])), (a3, .inl (cJ, 4, .inr (.inl (fun _ => 0))))] H := hP
  have hD : va_D (va_A [(h0, .inr (1, [.null, .int 0, .null, .null, .null, .null]))] s.heap.size) [(h0, .inr (1, [.ref q5, .int 0, .ref q23, .ref q35, .null, .null])), (q5, .inr (3, [.ref a1])), (a1, .inl (cJ, 12, .inr (.inl (fun _ => 0)))), (q23, .inr (3, [.ref a2])), (a2, .inl (cJ, 4, .inr (.inl (fun _ => 0)))), (q35, .inr (3, [.ref a3])), (a3, .inl (cJ, 4, .inr (.inl (fun _ => 0))))] := hD
  refine lv_aload_n hx hb dX2_init_46 rfl (lv_at hl 0 rfl) ?_
  refine va_new (ci := 3) (fs := [.null]) (C := RX4) (T := TX4) (N := 1) hx hb hts (by decide +kernel) tyX4 tyX4_ok hown (hts (.classLink RX2 9 RX4) (by decide +kernel)) (hts (.instantiable RX4 1) (by decide +kernel)) (hts (.initialized RX4) (by decide +kernel)) hK hP hD hS hA rfl (fun j hj => by rcases (show j = 0 by omega) with rfl <;> rfl) (Nat.le_of_ble_eq_true rfl) (Nat.le_of_ble_eq_true rfl) dX2_init_47 (fun q47 H hP hD hS => ?_)
  have hP : va_P D vwCl [(h0, .inr (1, [.ref q5, .int 0, .ref q23, .ref q35, .null, .null])), (q5, .inr (3, [.ref a1])), (a1, .inl (cJ, 12, .inr (.inl (fun _ => 0)))), (q23, .inr (3, [.ref a2])), (a2, .inl (cJ, 4, .inr (.inl (fun _ => 0)))), (q35, .inr (3, [.ref a3])), (a3, .inl (cJ, 4, .inr (.inl (fun _ => 0)))), (q47, .inr (3, [.null]))] H := hP
  have hD : va_D (va_A [(h0, .inr (1, [.null, .int 0, .null, .null, .null, .null]))] s.heap.size) [(h0, .inr (1, [.ref q5, .int 0, .ref q23, .ref q35, .null, .null])), (q5, .inr (3, [.ref a1])), (a1, .inl (cJ, 12, .inr (.inl (fun _ => 0)))), (q23, .inr (3, [.ref a2])), (a2, .inl (cJ, 4, .inr (.inl (fun _ => 0)))), (q35, .inr (3, [.ref a3])), (a3, .inl (cJ, 4, .inr (.inl (fun _ => 0)))), (q47, .inr (3, [.null]))] := hD
  refine W.widen (k := 7) (n := 24) (by omega) (by omega) ?_
  refine lv_dup hx hb dX2_init_50 rfl ?_
  refine lv_iconst (v := 4) hx hb dX2_init_51 (by decide) ?_
  refine nu_callv (As := [.int 4]) (rest := [.ref q47, .ref h0]) (wr := [(h0, .inr (1, [.ref q5, .int 0, .ref q23, .ref q35, .null, .null])), (q5, .inr (3, [.ref a1])), (a1, .inl (cJ, 12, .inr (.inl (fun _ => 0)))), (q23, .inr (3, [.ref a2])), (a2, .inl (cJ, 4, .inr (.inl (fun _ => 0)))), (q35, .inr (3, [.ref a3])), (a3, .inl (cJ, 4, .inr (.inl (fun _ => 0))))]) ⟨hx, hb, hml, hown, hts⟩ (c_X4_init l D cJ q47 4 (by decide)) (cwI 1 hts gX2_init_X4_init rfl rfl rfl (hts (.initialized RX4) (by decide +kernel)) (hts (.methodLink RX2 11 yX4_init) (by decide +kernel)) (hts (.instanceMethod yX4_init) (by decide +kernel)) rfl (by decide +kernel) ⟨(Nat.le_of_ble_eq_true rfl), (Nat.le_of_ble_eq_true rfl)⟩) rfl hl.1 (lv_room (Nat.le_of_ble_eq_true rfl)) dX2_init_52 ⟨(Nat.le_of_ble_eq_true rfl), (Nat.le_of_ble_eq_true rfl)⟩ hS hA rfl hK hP hD [7] [0, 1, 2, 3, 4, 5, 6] rfl rfl (by decide) rfl (by decide) (by decide) (fun u H locs hw hP hD hS => ?_)
  obtain ⟨a4, rfl⟩ := hw
  have hP : va_P D vwCl [(h0, .inr (1, [.ref q5, .int 0, .ref q23, .ref q35, .null, .null])), (q5, .inr (3, [.ref a1])), (a1, .inl (cJ, 12, .inr (.inl (fun _ => 0)))), (q23, .inr (3, [.ref a2])), (a2, .inl (cJ, 4, .inr (.inl (fun _ => 0)))), (q35, .inr (3, [.ref a3])), (a3, .inl (cJ, 4, .inr (.inl (fun _ => 0)))), (q47, .inr (3, [.ref a4])), (a4, .inl (cJ, 4, .inr (.inl (fun _ => 0))))] H := hP
  have hD : va_D (va_A [(h0, .inr (1, [.null, .int 0, .null, .null, .null, .null]))] s.heap.size) [(h0, .inr (1, [.ref q5, .int 0, .ref q23, .ref q35, .null, .null])), (q5, .inr (3, [.ref a1])), (a1, .inl (cJ, 12, .inr (.inl (fun _ => 0)))), (q23, .inr (3, [.ref a2])), (a2, .inl (cJ, 4, .inr (.inl (fun _ => 0)))), (q35, .inr (3, [.ref a3])), (a3, .inl (cJ, 4, .inr (.inl (fun _ => 0)))), (q47, .inr (3, [.ref a4])), (a4, .inl (cJ, 4, .inr (.inl (fun _ => 0))))] := hD
  refine W.widen (k := 8) (n := 28) (by omega) (by omega) ?_
  refine va_putF (D := D) (ci := 1) (v := .ref q47) (ty := .object "Shingletrack$Row") (C := RX2) (T := TX2) (N := 6) hx hb hts (by decide +kernel) tyX2 tyX2_ok nmX2 hown hK hP hD hS 0 rfl rfl 4 (by decide) (hts (.fieldLink RX2 30 "Shingletrack$Channel" "nextSquares" "LShingletrack$Row;") (by decide +kernel)) (fun _ h9 => h9) rfl hin rfl (by decide +kernel) rfl rfl (Nat.le_of_ble_eq_true rfl) dX2_init_55 (fun H locs hP hD hS => ?_)
  have hP : va_P D vwCl [(h0, .inr (1, [.ref q5, .int 0, .ref q23, .ref q35, .ref q47, .null])), (q5, .inr (3, [.ref a1])), (a1, .inl (cJ, 12, .inr (.inl (fun _ => 0)))), (q23, .inr (3, [.ref a2])), (a2, .inl (cJ, 4, .inr (.inl (fun _ => 0)))), (q35, .inr (3, [.ref a3])), (a3, .inl (cJ, 4, .inr (.inl (fun _ => 0)))), (q47, .inr (3, [.ref a4])), (a4, .inl (cJ, 4, .inr (.inl (fun _ => 0))))] H := hP
  have hD : va_D (va_A [(h0, .inr (1, [.null, .int 0, .null, .null, .null, .null]))] s.heap.size) [(h0, .inr (1, [.ref q5, .int 0, .ref q23, .ref q35, .ref q47, .null])), (q5, .inr (3, [.ref a1])), (a1, .inl (cJ, 12, .inr (.inl (fun _ => 0)))), (q23, .inr (3, [.ref a2])), (a2, .inl (cJ, 4, .inr (.inl (fun _ => 0)))), (q35, .inr (3, [.ref a3])), (a3, .inl (cJ, 4, .inr (.inl (fun _ => 0)))), (q47, .inr (3, [.ref a4])), (a4, .inl (cJ, 4, .inr (.inl (fun _ => 0))))] := hD
  refine lv_aload_n hx hb dX2_init_58 rfl (lv_at hl 0 rfl) ?_
  refine va_new (ci := 3) (fs := [.null]) (C := RX4) (T := TX4) (N := 1) hx hb hts (by decide +kernel) tyX4 tyX4_ok hown (hts (.classLink RX2 9 RX4) (by decide +kernel)) (hts (.instantiable RX4 1) (by decide +kernel)) (hts (.initialized RX4) (by decide +kernel)) hK hP hD hS hA rfl (fun j hj => by rcases (show j = 0 by omega) with rfl <;> rfl) (Nat.le_of_ble_eq_true rfl) (Nat.le_of_ble_eq_true rfl) dX2_init_59 (fun q59 H hP hD hS => ?_)
  have hP : va_P D vwCl [(h0, .inr (1, [.ref q5, .int 0, .ref q23, .ref q35, .ref q47, .null])), (q5, .inr (3, [.ref a1])), (a1, .inl (cJ, 12, .inr (.inl (fun _ => 0)))), (q23, .inr (3, [.ref a2])), (a2, .inl (cJ, 4, .inr (.inl (fun _ => 0)))), (q35, .inr (3, [.ref a3])), (a3, .inl (cJ, 4, .inr (.inl (fun _ => 0)))), (q47, .inr (3, [.ref a4])), (a4, .inl (cJ, 4, .inr (.inl (fun _ => 0)))), (q59, .inr (3, [.null]))] H := hP
  have hD : va_D (va_A [(h0, .inr (1, [.null, .int 0, .null, .null, .null, .null]))] s.heap.size) [(h0, .inr (1, [.ref q5, .int 0, .ref q23, .ref q35, .ref q47, .null])), (q5, .inr (3, [.ref a1])), (a1, .inl (cJ, 12, .inr (.inl (fun _ => 0)))), (q23, .inr (3, [.ref a2])), (a2, .inl (cJ, 4, .inr (.inl (fun _ => 0)))), (q35, .inr (3, [.ref a3])), (a3, .inl (cJ, 4, .inr (.inl (fun _ => 0)))), (q47, .inr (3, [.ref a4])), (a4, .inl (cJ, 4, .inr (.inl (fun _ => 0)))), (q59, .inr (3, [.null]))] := hD
  refine W.widen (k := 9) (n := 29) (by omega) (by omega) ?_
  refine lv_dup hx hb dX2_init_62 rfl ?_
  refine lv_iconst (v := 4) hx hb dX2_init_63 (by decide) ?_
  refine nu_callv (As := [.int 4]) (rest := [.ref q59, .ref h0]) (wr := [(h0, .inr (1, [.ref q5, .int 0, .ref q23, .ref q35, .ref q47, .null])), (q5, .inr (3, [.ref a1])), (a1, .inl (cJ, 12, .inr (.inl (fun _ => 0)))), (q23, .inr (3, [.ref a2])), (a2, .inl (cJ, 4, .inr (.inl (fun _ => 0)))), (q35, .inr (3, [.ref a3])), (a3, .inl (cJ, 4, .inr (.inl (fun _ => 0)))), (q47, .inr (3, [.ref a4])), (a4, .inl (cJ, 4, .inr (.inl (fun _ => 0))))]) ⟨hx, hb, hml, hown, hts⟩ (c_X4_init l D cJ q59 4 (by decide)) (cwI 1 hts gX2_init_X4_init rfl rfl rfl (hts (.initialized RX4) (by decide +kernel)) (hts (.methodLink RX2 11 yX4_init) (by decide +kernel)) (hts (.instanceMethod yX4_init) (by decide +kernel)) rfl (by decide +kernel) ⟨(Nat.le_of_ble_eq_true rfl), (Nat.le_of_ble_eq_true rfl)⟩) rfl hl.1 (lv_room (Nat.le_of_ble_eq_true rfl)) dX2_init_64 ⟨(Nat.le_of_ble_eq_true rfl), (Nat.le_of_ble_eq_true rfl)⟩ hS hA rfl hK hP hD [9] [0, 1, 2, 3, 4, 5, 6, 7, 8] rfl rfl (by decide) rfl (by decide) (by decide) (fun u H locs hw hP hD hS => ?_)
  obtain ⟨a5, rfl⟩ := hw
  have hP : va_P D vwCl [(h0, .inr (1, [.ref q5, .int 0, .ref q23, .ref q35, .ref q47, .null])), (q5, .inr (3, [.ref a1])), (a1, .inl (cJ, 12, .inr (.inl (fun _ => 0)))), (q23, .inr (3, [.ref a2])), (a2, .inl (cJ, 4, .inr (.inl (fun _ => 0)))), (q35, .inr (3, [.ref a3])), (a3, .inl (cJ, 4, .inr (.inl (fun _ => 0)))), (q47, .inr (3, [.ref a4])), (a4, .inl (cJ, 4, .inr (.inl (fun _ => 0)))), (q59, .inr (3, [.ref a5])), (a5, .inl (cJ, 4, .inr (.inl (fun _ => 0))))] H := hP
  have hD : va_D (va_A [(h0, .inr (1, [.null, .int 0, .null, .null, .null, .null]))] s.heap.size) [(h0, .inr (1, [.ref q5, .int 0, .ref q23, .ref q35, .ref q47, .null])), (q5, .inr (3, [.ref a1])), (a1, .inl (cJ, 12, .inr (.inl (fun _ => 0)))), (q23, .inr (3, [.ref a2])), (a2, .inl (cJ, 4, .inr (.inl (fun _ => 0)))), (q35, .inr (3, [.ref a3])), (a3, .inl (cJ, 4, .inr (.inl (fun _ => 0)))), (q47, .inr (3, [.ref a4])), (a4, .inl (cJ, 4, .inr (.inl (fun _ => 0)))), (q59, .inr (3, [.ref a5])), (a5, .inl (cJ, 4, .inr (.inl (fun _ => 0))))] := hD
  refine W.widen (k := 10) (n := 33) (by omega) (by omega) ?_
  refine va_putF (D := D) (ci := 1) (v := .ref q59) (ty := .object "Shingletrack$Row") (C := RX2) (T := TX2) (N := 6) hx hb hts (by decide +kernel) tyX2 tyX2_ok nmX2 hown hK hP hD hS 0 rfl rfl 5 (by decide) (hts (.fieldLink RX2 33 "Shingletrack$Channel" "nextNumbers" "LShingletrack$Row;") (by decide +kernel)) (fun _ h9 => h9) rfl hin rfl (by decide +kernel) rfl rfl (Nat.le_of_ble_eq_true rfl) dX2_init_67 (fun H locs hP hD hS => ?_)
  have hP : va_P D vwCl [(h0, .inr (1, [.ref q5, .int 0, .ref q23, .ref q35, .ref q47, .ref q59])), (q5, .inr (3, [.ref a1])), (a1, .inl (cJ, 12, .inr (.inl (fun _ => 0)))), (q23, .inr (3, [.ref a2])), (a2, .inl (cJ, 4, .inr (.inl (fun _ => 0)))), (q35, .inr (3, [.ref a3])), (a3, .inl (cJ, 4, .inr (.inl (fun _ => 0)))), (q47, .inr (3, [.ref a4])), (a4, .inl (cJ, 4, .inr (.inl (fun _ => 0)))), (q59, .inr (3, [.ref a5])), (a5, .inl (cJ, 4, .inr (.inl (fun _ => 0))))] H := hP
  have hD : va_D (va_A [(h0, .inr (1, [.null, .int 0, .null, .null, .null, .null]))] s.heap.size) [(h0, .inr (1, [.ref q5, .int 0, .ref q23, .ref q35, .ref q47, .ref q59])), (q5, .inr (3, [.ref a1])), (a1, .inl (cJ, 12, .inr (.inl (fun _ => 0)))), (q23, .inr (3, [.ref a2])), (a2, .inl (cJ, 4, .inr (.inl (fun _ => 0)))), (q35, .inr (3, [.ref a3])), (a3, .inl (cJ, 4, .inr (.inl (fun _ => 0)))), (q47, .inr (3, [.ref a4])), (a4, .inl (cJ, 4, .inr (.inl (fun _ => 0)))), (q59, .inr (3, [.ref a5])), (a5, .inl (cJ, 4, .inr (.inl (fun _ => 0))))] := hD
  have hP9 := hP.sub (ws' := [(h0, .inr (1, [.ref q5, .int 0, .ref q23, .ref q35, .ref q47, .ref q59])), (q5, .inr (3, [.ref a1])), (a1, .inl (cJ, 12, .inr (.inl (fun _ => 0)))), (q23, .inr (3, [.ref a2])), (a2, .inl (cJ, 4, .inr (.inl (fun _ => 0)))), (q35, .inr (3, [.ref a3])), (a3, .inl (cJ, 4, .inr (.inl (fun _ => 0)))), (q47, .inr (3, [.ref a4])), (a4, .inl (cJ, 4, .inr (.inl (fun _ => 0)))), (q59, .inr (3, [.ref a5])), (a5, .inl (cJ, 4, .inr (.inl (fun _ => 0))))]) [0, 1, 2, 3, 4, 5, 6, 7, 8, 9, 10] rfl
  have hD9 := hD.sub (ws' := [(h0, .inr (1, [.ref q5, .int 0, .ref q23, .ref q35, .ref q47, .ref q59])), (q5, .inr (3, [.ref a1])), (a1, .inl (cJ, 12, .inr (.inl (fun _ => 0)))), (q23, .inr (3, [.ref a2])), (a2, .inl (cJ, 4, .inr (.inl (fun _ => 0)))), (q35, .inr (3, [.ref a3])), (a3, .inl (cJ, 4, .inr (.inl (fun _ => 0)))), (q47, .inr (3, [.ref a4])), (a4, .inl (cJ, 4, .inr (.inl (fun _ => 0)))), (q59, .inr (3, [.ref a5])), (a5, .inl (cJ, 4, .inr (.inl (fun _ => 0))))]) [0, 1, 2, 3, 4, 5, 6, 7, 8, 9, 10] (by decide) rfl
  exact W.vret hx hb hr (fun t ht hW => ⟨⟨_, rfl, ⟨q5, a1, q23, a2, q35, a3, q47, a4, q59, a5, rfl⟩, (by rw [ht]; exact hP9), va_K.moved hW.alike hK, hD9⟩, hS.F ht⟩) hS.2.2 dX2_init_70
set_option maxHeartbeats 4000000 in
set_option maxRecDepth 100000 in
theorem c_X0_init (l : Launch) (D : va_G) (cJ : ClassId) (h0 : Nat) : nc l yX0_init wsX0_init ({ frames := 2, cells := 4, slots := 14, locals := 33 } : Room) [.ref h0] D cJ [(h0, .inr (0, [.null, .null, .int 0]))] (fun u => ∃ v1 v2 : Nat, u = [(h0, .inr (0, [.ref v1, .ref v2, .int 0]))]) 4 14 := by
  intro sz
  refine Met.ofW (cc := cX0_init) (maxL := 1) (ret := none) (by decide) rfl ?_
  intro p e s m args below meth c s₁ B hml hv
  obtain ⟨rfl, rfl, hP, hK, hD0⟩ := hv
  have hx := B.exec
  have hb := B.bytes
  have hr := B.returns
  have hts := atoms_spec (ws := wsX0_init) B.pre
  have hown : s.vm.findClass RX0 = some m.cls := findClass_of_methodNamed B.named
  have hlocks := B.notSynchronized
  have hin : meth.name = "<init>" := (name_of_methodNamed B.named B.method).1
  have hS : va_S (va_A [(h0, .inr (0, [.null, .null, .int 0]))] s.heap.size) s.heap s.heap [] := va_S.rf
  have hD := hD0.self (sz := s.heap.size)
  have hA : ∀ q : Nat, s.heap.size ≤ q → (va_A [(h0, .inr (0, [.null, .null, .int 0]))] s.heap.size) q := fun _ h => Or.inr h
  have hl := lv_entry ([.ref h0]) (n := 1) (Nat.le_of_ble_eq_true rfl)
  rw [lg_entry_eq]
  generalize (lg_sl ([.ref h0]) ++ List.replicate (1 - (lg_sl ([.ref h0])).length) Slot.unset).toArray = ls at hl ⊢
  have hl : lv_has ls 1 [(0, .ref h0)] := hl
  have hP : va_P D vwCl [(h0, .inr (0, [.null, .null, .int 0]))] s.heap := hP
  refine lv_aload_n hx hb dX0_init_0 rfl (lv_at hl 0 rfl) ?_
  refine W.objInit hx hb hown (hts (.methodLink RX0 3 objectInit) (by decide +kernel)) (hts (.instanceMethod objectInit) (by decide +kernel)) (hts _ (List.mem_of_getElem? (i := 3) rfl)) rfl (by rw [hml]; exact hl.1) rfl dX0_init_1 (Nat.le_of_ble_eq_true rfl) (Nat.le_of_ble_eq_true rfl) ?_
  refine W.eq (g2 := F0 m 4 ls []) rfl ?_
  refine lv_aload_n hx hb dX0_init_4 rfl (lv_at hl 0 rfl) ?_
  refine va_new (ci := 3) (fs := [.null]) (C := RX4) (T := TX4) (N := 1) hx hb hts (by decide +kernel) tyX4 tyX4_ok hown (hts (.classLink RX0 9 RX4) (by decide +kernel)) (hts (.instantiable RX4 1) (by decide +kernel)) (hts (.initialized RX4) (by decide +kernel)) hK hP hD hS hA rfl (fun j hj => by rcases (show j = 0 by omega) with rfl <;> rfl) (Nat.le_of_ble_eq_true rfl) (Nat.le_of_ble_eq_true rfl) dX0_init_5 (fun q5 H hP hD hS => ?_)
  have hP : va_P D vwCl [(h0, .inr (0, [.null, .null, .int 0])), (q5, .inr (3, [.null]))] H := hP
  have hD : va_D (va_A [(h0, .inr (0, [.null, .null, .int 0]))] s.heap.size) [(h0, .inr (0, [.null, .null, .int 0])), (q5, .inr (3, [.null]))] := hD
  refine W.widen (k := 1) (n := 1) (by omega) (by omega) ?_
  refine lv_dup hx hb dX0_init_8 rfl ?_
  refine lv_bipush (v := 6) hx hb dX0_init_9 (by decide) ?_
  refine nu_callv (As := [.int 6]) (rest := [.ref q5, .ref h0]) (wr := [(h0, .inr (0, [.null, .null, .int 0]))]) ⟨hx, hb, hml, hown, hts⟩ (c_X4_init l D cJ q5 6 (by decide)) (cwI 1 hts gX0_init_X4_init rfl rfl rfl (hts (.initialized RX4) (by decide +kernel)) (hts (.methodLink RX0 11 yX4_init) (by decide +kernel)) (hts (.instanceMethod yX4_init) (by decide +kernel)) rfl (by decide +kernel) ⟨(Nat.le_of_ble_eq_true rfl), (Nat.le_of_ble_eq_true rfl)⟩) rfl hl.1 (lv_room (Nat.le_of_ble_eq_true rfl)) dX0_init_11 ⟨(Nat.le_of_ble_eq_true rfl), (Nat.le_of_ble_eq_true rfl)⟩ hS hA rfl hK hP hD [1] [0] rfl rfl (by decide) rfl (by decide) (by decide) (fun u H locs hw hP hD hS => ?_)
  obtain ⟨a1, rfl⟩ := hw
  have hP : va_P D vwCl [(h0, .inr (0, [.null, .null, .int 0])), (q5, .inr (3, [.ref a1])), (a1, .inl (cJ, 6, .inr (.inl (fun _ => 0))))] H := hP
  have hD : va_D (va_A [(h0, .inr (0, [.null, .null, .int 0]))] s.heap.size) [(h0, .inr (0, [.null, .null, .int 0])), (q5, .inr (3, [.ref a1])), (a1, .inl (cJ, 6, .inr (.inl (fun _ => 0))))] := hD
  refine W.widen (k := 2) (n := 7) (by omega) (by omega) ?_
  refine va_putF (D := D) (ci := 0) (v := .ref q5) (ty := .object "Shingletrack$Row") (C := RX0) (T := TX0) (N := 3) hx hb hts (by decide +kernel) tyX0 tyX0_ok nmX0 hown hK hP hD hS 0 rfl rfl 0 (by decide) (hts (.fieldLink RX0 14 "Shingletrack$Buffer" "sectors" "LShingletrack$Row;") (by decide +kernel)) (fun _ h9 => h9) rfl hin rfl (by decide +kernel) rfl rfl (Nat.le_of_ble_eq_true rfl) dX0_init_14 (fun H locs hP hD hS => ?_)
  have hP : va_P D vwCl [(h0, .inr (0, [.ref q5, .null, .int 0])), (q5, .inr (3, [.ref a1])), (a1, .inl (cJ, 6, .inr (.inl (fun _ => 0))))] H := hP
  have hD : va_D (va_A [(h0, .inr (0, [.null, .null, .int 0]))] s.heap.size) [(h0, .inr (0, [.ref q5, .null, .int 0])), (q5, .inr (3, [.ref a1])), (a1, .inl (cJ, 6, .inr (.inl (fun _ => 0))))] := hD
  refine lv_aload_n hx hb dX0_init_17 rfl (lv_at hl 0 rfl) ?_
  refine va_new (ci := 3) (fs := [.null]) (C := RX4) (T := TX4) (N := 1) hx hb hts (by decide +kernel) tyX4 tyX4_ok hown (hts (.classLink RX0 9 RX4) (by decide +kernel)) (hts (.instantiable RX4 1) (by decide +kernel)) (hts (.initialized RX4) (by decide +kernel)) hK hP hD hS hA rfl (fun j hj => by rcases (show j = 0 by omega) with rfl <;> rfl) (Nat.le_of_ble_eq_true rfl) (Nat.le_of_ble_eq_true rfl) dX0_init_18 (fun q18 H hP hD hS => ?_)
  have hP : va_P D vwCl [(h0, .inr (0, [.ref q5, .null, .int 0])), (q5, .inr (3, [.ref a1])), (a1, .inl (cJ, 6, .inr (.inl (fun _ => 0)))), (q18, .inr (3, [.null]))] H := hP
  have hD : va_D (va_A [(h0, .inr (0, [.null, .null, .int 0]))] s.heap.size) [(h0, .inr (0, [.ref q5, .null, .int 0])), (q5, .inr (3, [.ref a1])), (a1, .inl (cJ, 6, .inr (.inl (fun _ => 0)))), (q18, .inr (3, [.null]))] := hD
  refine W.widen (k := 3) (n := 8) (by omega) (by omega) ?_
  refine lv_dup hx hb dX0_init_21 rfl ?_
  refine lv_bipush (v := 6) hx hb dX0_init_22 (by decide) ?_
  refine nu_callv (As := [.int 6]) (rest := [.ref q18, .ref h0]) (wr := [(h0, .inr (0, [.ref q5, .null, .int 0])), (q5, .inr (3, [.ref a1])), (a1, .inl (cJ, 6, .inr (.inl (fun _ => 0))))]) ⟨hx, hb, hml, hown, hts⟩ (c_X4_init l D cJ q18 6 (by decide)) (cwI 1 hts gX0_init_X4_init rfl rfl rfl (hts (.initialized RX4) (by decide +kernel)) (hts (.methodLink RX0 11 yX4_init) (by decide +kernel)) (hts (.instanceMethod yX4_init) (by decide +kernel)) rfl (by decide +kernel) ⟨(Nat.le_of_ble_eq_true rfl), (Nat.le_of_ble_eq_true rfl)⟩) rfl hl.1 (lv_room (Nat.le_of_ble_eq_true rfl)) dX0_init_24 ⟨(Nat.le_of_ble_eq_true rfl), (Nat.le_of_ble_eq_true rfl)⟩ hS hA rfl hK hP hD [3] [0, 1, 2] rfl rfl (by decide) rfl (by decide) (by decide) (fun u H locs hw hP hD hS => ?_)
  obtain ⟨a2, rfl⟩ := hw
  have hP : va_P D vwCl [(h0, .inr (0, [.ref q5, .null, .int 0])), (q5, .inr (3, [.ref a1])), (a1, .inl (cJ, 6, .inr (.inl (fun _ => 0)))), (q18, .inr (3, [.ref a2])), (a2, .inl (cJ, 6, .inr (.inl (fun _ => 0))))] H := hP
  have hD : va_D (va_A [(h0, .inr (0, [.null, .null, .int 0]))] s.heap.size) [(h0, .inr (0, [.ref q5, .null, .int 0])), (q5, .inr (3, [.ref a1])), (a1, .inl (cJ, 6, .inr (.inl (fun _ => 0)))), (q18, .inr (3, [.ref a2])), (a2, .inl (cJ, 6, .inr (.inl (fun _ => 0))))] := hD
  refine W.widen (k := 4) (n := 14) (by omega) (by omega) ?_
  refine va_putF (D := D) (ci := 0) (v := .ref q18) (ty := .object "Shingletrack$Row") (C := RX0) (T := TX0) (N := 3) hx hb hts (by decide +kernel) tyX0 tyX0_ok nmX0 hown hK hP hD hS 0 rfl rfl 1 (by decide) (hts (.fieldLink RX0 20 "Shingletrack$Buffer" "values" "LShingletrack$Row;") (by decide +kernel)) (fun _ h9 => h9) rfl hin rfl (by decide +kernel) rfl rfl (Nat.le_of_ble_eq_true rfl) dX0_init_27 (fun H locs hP hD hS => ?_)
  have hP : va_P D vwCl [(h0, .inr (0, [.ref q5, .ref q18, .int 0])), (q5, .inr (3, [.ref a1])), (a1, .inl (cJ, 6, .inr (.inl (fun _ => 0)))), (q18, .inr (3, [.ref a2])), (a2, .inl (cJ, 6, .inr (.inl (fun _ => 0))))] H := hP
  have hD : va_D (va_A [(h0, .inr (0, [.null, .null, .int 0]))] s.heap.size) [(h0, .inr (0, [.ref q5, .ref q18, .int 0])), (q5, .inr (3, [.ref a1])), (a1, .inl (cJ, 6, .inr (.inl (fun _ => 0)))), (q18, .inr (3, [.ref a2])), (a2, .inl (cJ, 6, .inr (.inl (fun _ => 0))))] := hD
  refine lv_aload_n hx hb dX0_init_30 rfl (lv_at hl 0 rfl) ?_
  refine lv_iconst (v := 0) hx hb dX0_init_31 (by decide) ?_
  refine va_put (D := D) (ci := 0) (v := .int 0) (ty := .int) (C := RX0) (T := TX0) (N := 3) hx hb hts (by decide +kernel) tyX0 tyX0_ok nmX0 hown hK hP hD hS 0 rfl rfl 2 (by decide) (hts (.fieldLink RX0 23 "Shingletrack$Buffer" "sectorsThere" "I") (by decide +kernel)) (fun _ h9 => h9) rfl (by decide +kernel) rfl rfl (Nat.le_of_ble_eq_true rfl) dX0_init_32 (fun H locs hP hD hS => ?_)
  have hP : va_P D vwCl [(h0, .inr (0, [.ref q5, .ref q18, .int 0])), (q5, .inr (3, [.ref a1])), (a1, .inl (cJ, 6, .inr (.inl (fun _ => 0)))), (q18, .inr (3, [.ref a2])), (a2, .inl (cJ, 6, .inr (.inl (fun _ => 0))))] H := hP
  have hD : va_D (va_A [(h0, .inr (0, [.null, .null, .int 0]))] s.heap.size) [(h0, .inr (0, [.ref q5, .ref q18, .int 0])), (q5, .inr (3, [.ref a1])), (a1, .inl (cJ, 6, .inr (.inl (fun _ => 0)))), (q18, .inr (3, [.ref a2])), (a2, .inl (cJ, 6, .inr (.inl (fun _ => 0))))] := hD
  have hP9 := hP.sub (ws' := [(h0, .inr (0, [.ref q5, .ref q18, .int 0]))]) [0] rfl
  have hD9 := hD.sub (ws' := [(h0, .inr (0, [.ref q5, .ref q18, .int 0]))]) [0] (by decide) rfl
  exact W.vret hx hb hr (fun t ht hW => ⟨⟨_, rfl, ⟨q5, q18, rfl⟩, (by rw [ht]; exact hP9), va_K.moved hW.alike hK, hD9⟩, hS.F ht⟩) hS.2.2 dX0_init_35
set_option maxHeartbeats 4000000 in
set_option maxRecDepth 100000 in
theorem c_X5_init (l : Launch) (D : va_G) (cJ : ClassId) (h0 : Nat) : nc l yX5_init wsX5_init ({ frames := 2, cells := 4, slots := 18, locals := 33 } : Room) [.ref h0] D cJ [(h0, .inr (4, [.null, .null, .int 0, .int 0, .int 0, .int 0, .int 0]))] (fun u => ∃ v1 v2 : Nat, u = [(h0, .inr (4, [.ref v1, .ref v2, .int 0, .int 0, .int 0, .int 0, .int 0]))]) 4 18 := by
  intro sz
  refine Met.ofW (cc := cX5_init) (maxL := 1) (ret := none) (by decide) rfl ?_
  intro p e s m args below meth c s₁ B hml hv
  obtain ⟨rfl, rfl, hP, hK, hD0⟩ := hv
  have hx := B.exec
  have hb := B.bytes
  have hr := B.returns
  have hts := atoms_spec (ws := wsX5_init) B.pre
  have hown : s.vm.findClass RX5 = some m.cls := findClass_of_methodNamed B.named
  have hlocks := B.notSynchronized
  have hin : meth.name = "<init>" := (name_of_methodNamed B.named B.method).1
  have hS : va_S (va_A [(h0, .inr (4, [.null, .null, .int 0, .int 0, .int 0, .int 0, .int 0]))] s.heap.size) s.heap s.heap [] := va_S.rf
  have hD := hD0.self (sz := s.heap.size)
  have hA : ∀ q : Nat, s.heap.size ≤ q → (va_A [(h0, .inr (4, [.null, .null, .int 0, .int 0, .int 0, .int 0, .int 0]))] s.heap.size) q := fun _ h => Or.inr h
  have hl := lv_entry ([.ref h0]) (n := 1) (Nat.le_of_ble_eq_true rfl)
  rw [lg_entry_eq]
  generalize (lg_sl ([.ref h0]) ++ List.replicate (1 - (lg_sl ([.ref h0])).length) Slot.unset).toArray = ls at hl ⊢
  have hl : lv_has ls 1 [(0, .ref h0)] := hl
  have hP : va_P D vwCl [(h0, .inr (4, [.null, .null, .int 0, .int 0, .int 0, .int 0, .int 0]))] s.heap := hP
  refine lv_aload_n hx hb dX5_init_0 rfl (lv_at hl 0 rfl) ?_
  refine W.objInit hx hb hown (hts (.methodLink RX5 3 objectInit) (by decide +kernel)) (hts (.instanceMethod objectInit) (by decide +kernel)) (hts _ (List.mem_of_getElem? (i := 3) rfl)) rfl (by rw [hml]; exact hl.1) rfl dX5_init_1 (Nat.le_of_ble_eq_true rfl) (Nat.le_of_ble_eq_true rfl) ?_
  refine W.eq (g2 := F0 m 4 ls []) rfl ?_
  refine lv_aload_n hx hb dX5_init_4 rfl (lv_at hl 0 rfl) ?_
  refine va_new (ci := 3) (fs := [.null]) (C := RX4) (T := TX4) (N := 1) hx hb hts (by decide +kernel) tyX4 tyX4_ok hown (hts (.classLink RX5 9 RX4) (by decide +kernel)) (hts (.instantiable RX4 1) (by decide +kernel)) (hts (.initialized RX4) (by decide +kernel)) hK hP hD hS hA rfl (fun j hj => by rcases (show j = 0 by omega) with rfl <;> rfl) (Nat.le_of_ble_eq_true rfl) (Nat.le_of_ble_eq_true rfl) dX5_init_5 (fun q5 H hP hD hS => ?_)
  have hP : va_P D vwCl [(h0, .inr (4, [.null, .null, .int 0, .int 0, .int 0, .int 0, .int 0])), (q5, .inr (3, [.null]))] H := hP
  have hD : va_D (va_A [(h0, .inr (4, [.null, .null, .int 0, .int 0, .int 0, .int 0, .int 0]))] s.heap.size) [(h0, .inr (4, [.null, .null, .int 0, .int 0, .int 0, .int 0, .int 0])), (q5, .inr (3, [.null]))] := hD
  refine W.widen (k := 1) (n := 1) (by omega) (by omega) ?_
  refine lv_dup hx hb dX5_init_8 rfl ?_
  refine lv_bipush (v := 8) hx hb dX5_init_9 (by decide) ?_
  refine nu_callv (As := [.int 8]) (rest := [.ref q5, .ref h0]) (wr := [(h0, .inr (4, [.null, .null, .int 0, .int 0, .int 0, .int 0, .int 0]))]) ⟨hx, hb, hml, hown, hts⟩ (c_X4_init l D cJ q5 8 (by decide)) (cwI 1 hts gX5_init_X4_init rfl rfl rfl (hts (.initialized RX4) (by decide +kernel)) (hts (.methodLink RX5 11 yX4_init) (by decide +kernel)) (hts (.instanceMethod yX4_init) (by decide +kernel)) rfl (by decide +kernel) ⟨(Nat.le_of_ble_eq_true rfl), (Nat.le_of_ble_eq_true rfl)⟩) rfl hl.1 (lv_room (Nat.le_of_ble_eq_true rfl)) dX5_init_11 ⟨(Nat.le_of_ble_eq_true rfl), (Nat.le_of_ble_eq_true rfl)⟩ hS hA rfl hK hP hD [1] [0] rfl rfl (by decide) rfl (by decide) (by decide) (fun u H locs hw hP hD hS => ?_)
  obtain ⟨a1, rfl⟩ := hw
  have hP : va_P D vwCl [(h0, .inr (4, [.null, .null, .int 0, .int 0, .int 0, .int 0, .int 0])), (q5, .inr (3, [.ref a1])), (a1, .inl (cJ, 8, .inr (.inl (fun _ => 0))))] H := hP
  have hD : va_D (va_A [(h0, .inr (4, [.null, .null, .int 0, .int 0, .int 0, .int 0, .int 0]))] s.heap.size) [(h0, .inr (4, [.null, .null, .int 0, .int 0, .int 0, .int 0, .int 0])), (q5, .inr (3, [.ref a1])), (a1, .inl (cJ, 8, .inr (.inl (fun _ => 0))))] := hD
  refine W.widen (k := 2) (n := 9) (by omega) (by omega) ?_
  refine va_putF (D := D) (ci := 4) (v := .ref q5) (ty := .object "Shingletrack$Row") (C := RX5) (T := TX5) (N := 7) hx hb hts (by decide +kernel) tyX5 tyX5_ok nmX5 hown hK hP hD hS 0 rfl rfl 0 (by decide) (hts (.fieldLink RX5 14 "Shingletrack$Seeks" "sectors" "LShingletrack$Row;") (by decide +kernel)) (fun _ h9 => h9) rfl hin rfl (by decide +kernel) rfl rfl (Nat.le_of_ble_eq_true rfl) dX5_init_14 (fun H locs hP hD hS => ?_)
  have hP : va_P D vwCl [(h0, .inr (4, [.ref q5, .null, .int 0, .int 0, .int 0, .int 0, .int 0])), (q5, .inr (3, [.ref a1])), (a1, .inl (cJ, 8, .inr (.inl (fun _ => 0))))] H := hP
  have hD : va_D (va_A [(h0, .inr (4, [.null, .null, .int 0, .int 0, .int 0, .int 0, .int 0]))] s.heap.size) [(h0, .inr (4, [.ref q5, .null, .int 0, .int 0, .int 0, .int 0, .int 0])), (q5, .inr (3, [.ref a1])), (a1, .inl (cJ, 8, .inr (.inl (fun _ => 0))))] := hD
  refine lv_aload_n hx hb dX5_init_17 rfl (lv_at hl 0 rfl) ?_
  refine va_new (ci := 3) (fs := [.null]) (C := RX4) (T := TX4) (N := 1) hx hb hts (by decide +kernel) tyX4 tyX4_ok hown (hts (.classLink RX5 9 RX4) (by decide +kernel)) (hts (.instantiable RX4 1) (by decide +kernel)) (hts (.initialized RX4) (by decide +kernel)) hK hP hD hS hA rfl (fun j hj => by rcases (show j = 0 by omega) with rfl <;> rfl) (Nat.le_of_ble_eq_true rfl) (Nat.le_of_ble_eq_true rfl) dX5_init_18 (fun q18 H hP hD hS => ?_)
  have hP : va_P D vwCl [(h0, .inr (4, [.ref q5, .null, .int 0, .int 0, .int 0, .int 0, .int 0])), (q5, .inr (3, [.ref a1])), (a1, .inl (cJ, 8, .inr (.inl (fun _ => 0)))), (q18, .inr (3, [.null]))] H := hP
  have hD : va_D (va_A [(h0, .inr (4, [.null, .null, .int 0, .int 0, .int 0, .int 0, .int 0]))] s.heap.size) [(h0, .inr (4, [.ref q5, .null, .int 0, .int 0, .int 0, .int 0, .int 0])), (q5, .inr (3, [.ref a1])), (a1, .inl (cJ, 8, .inr (.inl (fun _ => 0)))), (q18, .inr (3, [.null]))] := hD
  refine W.widen (k := 3) (n := 10) (by omega) (by omega) ?_
  refine lv_dup hx hb dX5_init_21 rfl ?_
  refine lv_bipush (v := 8) hx hb dX5_init_22 (by decide) ?_
  refine nu_callv (As := [.int 8]) (rest := [.ref q18, .ref h0]) (wr := [(h0, .inr (4, [.ref q5, .null, .int 0, .int 0, .int 0, .int 0, .int 0])), (q5, .inr (3, [.ref a1])), (a1, .inl (cJ, 8, .inr (.inl (fun _ => 0))))]) ⟨hx, hb, hml, hown, hts⟩ (c_X4_init l D cJ q18 8 (by decide)) (cwI 1 hts gX5_init_X4_init rfl rfl rfl (hts (.initialized RX4) (by decide +kernel)) (hts (.methodLink RX5 11 yX4_init) (by decide +kernel)) (hts (.instanceMethod yX4_init) (by decide +kernel)) rfl (by decide +kernel) ⟨(Nat.le_of_ble_eq_true rfl), (Nat.le_of_ble_eq_true rfl)⟩) rfl hl.1 (lv_room (Nat.le_of_ble_eq_true rfl)) dX5_init_24 ⟨(Nat.le_of_ble_eq_true rfl), (Nat.le_of_ble_eq_true rfl)⟩ hS hA rfl hK hP hD [3] [0, 1, 2] rfl rfl (by decide) rfl (by decide) (by decide) (fun u H locs hw hP hD hS => ?_)
  obtain ⟨a2, rfl⟩ := hw
  have hP : va_P D vwCl [(h0, .inr (4, [.ref q5, .null, .int 0, .int 0, .int 0, .int 0, .int 0])), (q5, .inr (3, [.ref a1])), (a1, .inl (cJ, 8, .inr (.inl (fun _ => 0)))), (q18, .inr (3, [.ref a2])), (a2, .inl (cJ, 8, .inr (.inl (fun _ => 0))))] H := hP
  have hD : va_D (va_A [(h0, .inr (4, [.null, .null, .int 0, .int 0, .int 0, .int 0, .int 0]))] s.heap.size) [(h0, .inr (4, [.ref q5, .null, .int 0, .int 0, .int 0, .int 0, .int 0])), (q5, .inr (3, [.ref a1])), (a1, .inl (cJ, 8, .inr (.inl (fun _ => 0)))), (q18, .inr (3, [.ref a2])), (a2, .inl (cJ, 8, .inr (.inl (fun _ => 0))))] := hD
  refine W.widen (k := 4) (n := 18) (by omega) (by omega) ?_
  refine va_putF (D := D) (ci := 4) (v := .ref q18) (ty := .object "Shingletrack$Row") (C := RX5) (T := TX5) (N := 7) hx hb hts (by decide +kernel) tyX5 tyX5_ok nmX5 hown hK hP hD hS 0 rfl rfl 1 (by decide) (hts (.fieldLink RX5 20 "Shingletrack$Seeks" "comings" "LShingletrack$Row;") (by decide +kernel)) (fun _ h9 => h9) rfl hin rfl (by decide +kernel) rfl rfl (Nat.le_of_ble_eq_true rfl) dX5_init_27 (fun H locs hP hD hS => ?_)
  have hP : va_P D vwCl [(h0, .inr (4, [.ref q5, .ref q18, .int 0, .int 0, .int 0, .int 0, .int 0])), (q5, .inr (3, [.ref a1])), (a1, .inl (cJ, 8, .inr (.inl (fun _ => 0)))), (q18, .inr (3, [.ref a2])), (a2, .inl (cJ, 8, .inr (.inl (fun _ => 0))))] H := hP
  have hD : va_D (va_A [(h0, .inr (4, [.null, .null, .int 0, .int 0, .int 0, .int 0, .int 0]))] s.heap.size) [(h0, .inr (4, [.ref q5, .ref q18, .int 0, .int 0, .int 0, .int 0, .int 0])), (q5, .inr (3, [.ref a1])), (a1, .inl (cJ, 8, .inr (.inl (fun _ => 0)))), (q18, .inr (3, [.ref a2])), (a2, .inl (cJ, 8, .inr (.inl (fun _ => 0))))] := hD
  refine lv_aload_n hx hb dX5_init_30 rfl (lv_at hl 0 rfl) ?_
  refine lv_iconst (v := 0) hx hb dX5_init_31 (by decide) ?_
  refine va_put (D := D) (ci := 4) (v := .int 0) (ty := .int) (C := RX5) (T := TX5) (N := 7) hx hb hts (by decide +kernel) tyX5 tyX5_ok nmX5 hown hK hP hD hS 0 rfl rfl 2 (by decide) (hts (.fieldLink RX5 23 "Shingletrack$Seeks" "requestsThere" "I") (by decide +kernel)) (fun _ h9 => h9) rfl (by decide +kernel) rfl rfl (Nat.le_of_ble_eq_true rfl) dX5_init_32 (fun H locs hP hD hS => ?_)
  have hP : va_P D vwCl [(h0, .inr (4, [.ref q5, .ref q18, .int 0, .int 0, .int 0, .int 0, .int 0])), (q5, .inr (3, [.ref a1])), (a1, .inl (cJ, 8, .inr (.inl (fun _ => 0)))), (q18, .inr (3, [.ref a2])), (a2, .inl (cJ, 8, .inr (.inl (fun _ => 0))))] H := hP
  have hD : va_D (va_A [(h0, .inr (4, [.null, .null, .int 0, .int 0, .int 0, .int 0, .int 0]))] s.heap.size) [(h0, .inr (4, [.ref q5, .ref q18, .int 0, .int 0, .int 0, .int 0, .int 0])), (q5, .inr (3, [.ref a1])), (a1, .inl (cJ, 8, .inr (.inl (fun _ => 0)))), (q18, .inr (3, [.ref a2])), (a2, .inl (cJ, 8, .inr (.inl (fun _ => 0))))] := hD
  refine lv_aload_n hx hb dX5_init_35 rfl (lv_at hl 0 rfl) ?_
  refine lv_iconst (v := 0) hx hb dX5_init_36 (by decide) ?_
  refine va_put (D := D) (ci := 4) (v := .int 0) (ty := .int) (C := RX5) (T := TX5) (N := 7) hx hb hts (by decide +kernel) tyX5 tyX5_ok nmX5 hown hK hP hD hS 0 rfl rfl 3 (by decide) (hts (.fieldLink RX5 27 "Shingletrack$Seeks" "now" "I") (by decide +kernel)) (fun _ h9 => h9) rfl (by decide +kernel) rfl rfl (Nat.le_of_ble_eq_true rfl) dX5_init_37 (fun H locs hP hD hS => ?_)
  have hP : va_P D vwCl [(h0, .inr (4, [.ref q5, .ref q18, .int 0, .int 0, .int 0, .int 0, .int 0])), (q5, .inr (3, [.ref a1])), (a1, .inl (cJ, 8, .inr (.inl (fun _ => 0)))), (q18, .inr (3, [.ref a2])), (a2, .inl (cJ, 8, .inr (.inl (fun _ => 0))))] H := hP
  have hD : va_D (va_A [(h0, .inr (4, [.null, .null, .int 0, .int 0, .int 0, .int 0, .int 0]))] s.heap.size) [(h0, .inr (4, [.ref q5, .ref q18, .int 0, .int 0, .int 0, .int 0, .int 0])), (q5, .inr (3, [.ref a1])), (a1, .inl (cJ, 8, .inr (.inl (fun _ => 0)))), (q18, .inr (3, [.ref a2])), (a2, .inl (cJ, 8, .inr (.inl (fun _ => 0))))] := hD
  refine lv_aload_n hx hb dX5_init_40 rfl (lv_at hl 0 rfl) ?_
  refine lv_iconst (v := 0) hx hb dX5_init_41 (by decide) ?_
  refine va_put (D := D) (ci := 4) (v := .int 0) (ty := .int) (C := RX5) (T := TX5) (N := 7) hx hb hts (by decide +kernel) tyX5 tyX5_ok nmX5 hown hK hP hD hS 0 rfl rfl 4 (by decide) (hts (.fieldLink RX5 30 "Shingletrack$Seeks" "armTrack" "I") (by decide +kernel)) (fun _ h9 => h9) rfl (by decide +kernel) rfl rfl (Nat.le_of_ble_eq_true rfl) dX5_init_42 (fun H locs hP hD hS => ?_)
  have hP : va_P D vwCl [(h0, .inr (4, [.ref q5, .ref q18, .int 0, .int 0, .int 0, .int 0, .int 0])), (q5, .inr (3, [.ref a1])), (a1, .inl (cJ, 8, .inr (.inl (fun _ => 0)))), (q18, .inr (3, [.ref a2])), (a2, .inl (cJ, 8, .inr (.inl (fun _ => 0))))] H := hP
  have hD : va_D (va_A [(h0, .inr (4, [.null, .null, .int 0, .int 0, .int 0, .int 0, .int 0]))] s.heap.size) [(h0, .inr (4, [.ref q5, .ref q18, .int 0, .int 0, .int 0, .int 0, .int 0])), (q5, .inr (3, [.ref a1])), (a1, .inl (cJ, 8, .inr (.inl (fun _ => 0)))), (q18, .inr (3, [.ref a2])), (a2, .inl (cJ, 8, .inr (.inl (fun _ => 0))))] := hD
  refine lv_aload_n hx hb dX5_init_45 rfl (lv_at hl 0 rfl) ?_
  refine lv_iconst (v := 0) hx hb dX5_init_46 (by decide) ?_
  refine va_put (D := D) (ci := 4) (v := .int 0) (ty := .int) (C := RX5) (T := TX5) (N := 7) hx hb hts (by decide +kernel) tyX5 tyX5_ok nmX5 hown hK hP hD hS 0 rfl rfl 5 (by decide) (hts (.fieldLink RX5 33 "Shingletrack$Seeks" "ticksWaited" "I") (by decide +kernel)) (fun _ h9 => h9) rfl (by decide +kernel) rfl rfl (Nat.le_of_ble_eq_true rfl) dX5_init_47 (fun H locs hP hD hS => ?_)
  have hP : va_P D vwCl [(h0, .inr (4, [.ref q5, .ref q18, .int 0, .int 0, .int 0, .int 0, .int 0])), (q5, .inr (3, [.ref a1])), (a1, .inl (cJ, 8, .inr (.inl (fun _ => 0)))), (q18, .inr (3, [.ref a2])), (a2, .inl (cJ, 8, .inr (.inl (fun _ => 0))))] H := hP
  have hD : va_D (va_A [(h0, .inr (4, [.null, .null, .int 0, .int 0, .int 0, .int 0, .int 0]))] s.heap.size) [(h0, .inr (4, [.ref q5, .ref q18, .int 0, .int 0, .int 0, .int 0, .int 0])), (q5, .inr (3, [.ref a1])), (a1, .inl (cJ, 8, .inr (.inl (fun _ => 0)))), (q18, .inr (3, [.ref a2])), (a2, .inl (cJ, 8, .inr (.inl (fun _ => 0))))] := hD
  refine lv_aload_n hx hb dX5_init_50 rfl (lv_at hl 0 rfl) ?_
  refine lv_iconst (v := 0) hx hb dX5_init_51 (by decide) ?_
  refine va_put (D := D) (ci := 4) (v := .int 0) (ty := .int) (C := RX5) (T := TX5) (N := 7) hx hb hts (by decide +kernel) tyX5 tyX5_ok nmX5 hown hK hP hD hS 0 rfl rfl 6 (by decide) (hts (.fieldLink RX5 36 "Shingletrack$Seeks" "requestsServed" "I") (by decide +kernel)) (fun _ h9 => h9) rfl (by decide +kernel) rfl rfl (Nat.le_of_ble_eq_true rfl) dX5_init_52 (fun H locs hP hD hS => ?_)
  have hP : va_P D vwCl [(h0, .inr (4, [.ref q5, .ref q18, .int 0, .int 0, .int 0, .int 0, .int 0])), (q5, .inr (3, [.ref a1])), (a1, .inl (cJ, 8, .inr (.inl (fun _ => 0)))), (q18, .inr (3, [.ref a2])), (a2, .inl (cJ, 8, .inr (.inl (fun _ => 0))))] H := hP
  have hD : va_D (va_A [(h0, .inr (4, [.null, .null, .int 0, .int 0, .int 0, .int 0, .int 0]))] s.heap.size) [(h0, .inr (4, [.ref q5, .ref q18, .int 0, .int 0, .int 0, .int 0, .int 0])), (q5, .inr (3, [.ref a1])), (a1, .inl (cJ, 8, .inr (.inl (fun _ => 0)))), (q18, .inr (3, [.ref a2])), (a2, .inl (cJ, 8, .inr (.inl (fun _ => 0))))] := hD
  have hP9 := hP.sub (ws' := [(h0, .inr (4, [.ref q5, .ref q18, .int 0, .int 0, .int 0, .int 0, .int 0]))]) [0] rfl
  have hD9 := hD.sub (ws' := [(h0, .inr (4, [.ref q5, .ref q18, .int 0, .int 0, .int 0, .int 0, .int 0]))]) [0] (by decide) rfl
  exact W.vret hx hb hr (fun t ht hW => ⟨⟨_, rfl, ⟨q5, q18, rfl⟩, (by rw [ht]; exact hP9), va_K.moved hW.alike hK, hD9⟩, hS.F ht⟩) hS.2.2 dX5_init_55
set_option maxHeartbeats 4000000 in
set_option maxRecDepth 100000 in
theorem c_X6_init (l : Launch) (D : va_G) (cJ : ClassId) (h0 : Nat) : nc l yX6_init wsX6_init ({ frames := 2, cells := 4, slots := 122, locals := 33 } : Room) [.ref h0] D cJ [(h0, .inr (5, [.null, .null]))] (fun u => ∃ v1 v2 v3 : Nat, u = [(h0, .inr (5, [.ref v1, .ref v3])), (v1, .inr (3, [.ref v2])), (v2, .inl (cJ, 60, .inr (.inl (fFil (fun _ => 0) (-1) 60))))]) 4 122 := by
  intro sz
  refine Met.ofW (cc := cX6_init) (maxL := 1) (ret := none) (by decide) rfl ?_
  intro p e s m args below meth c s₁ B hml hv
  obtain ⟨rfl, rfl, hP, hK, hD0⟩ := hv
  have hx := B.exec
  have hb := B.bytes
  have hr := B.returns
  have hts := atoms_spec (ws := wsX6_init) B.pre
  have hown : s.vm.findClass RX6 = some m.cls := findClass_of_methodNamed B.named
  have hlocks := B.notSynchronized
  have hin : meth.name = "<init>" := (name_of_methodNamed B.named B.method).1
  have hS : va_S (va_A [(h0, .inr (5, [.null, .null]))] s.heap.size) s.heap s.heap [] := va_S.rf
  have hD := hD0.self (sz := s.heap.size)
  have hA : ∀ q : Nat, s.heap.size ≤ q → (va_A [(h0, .inr (5, [.null, .null]))] s.heap.size) q := fun _ h => Or.inr h
  have hl := lv_entry ([.ref h0]) (n := 1) (Nat.le_of_ble_eq_true rfl)
  rw [lg_entry_eq]
  generalize (lg_sl ([.ref h0]) ++ List.replicate (1 - (lg_sl ([.ref h0])).length) Slot.unset).toArray = ls at hl ⊢
  have hl : lv_has ls 1 [(0, .ref h0)] := hl
  have hP : va_P D vwCl [(h0, .inr (5, [.null, .null]))] s.heap := hP
  refine lv_aload_n hx hb dX6_init_0 rfl (lv_at hl 0 rfl) ?_
  refine W.objInit hx hb hown (hts (.methodLink RX6 3 objectInit) (by decide +kernel)) (hts (.instanceMethod objectInit) (by decide +kernel)) (hts _ (List.mem_of_getElem? (i := 3) rfl)) rfl (by rw [hml]; exact hl.1) rfl dX6_init_1 (Nat.le_of_ble_eq_true rfl) (Nat.le_of_ble_eq_true rfl) ?_
  refine W.eq (g2 := F0 m 4 ls []) rfl ?_
  refine lv_aload_n hx hb dX6_init_4 rfl (lv_at hl 0 rfl) ?_
  refine va_new (ci := 3) (fs := [.null]) (C := RX4) (T := TX4) (N := 1) hx hb hts (by decide +kernel) tyX4 tyX4_ok hown (hts (.classLink RX6 9 RX4) (by decide +kernel)) (hts (.instantiable RX4 1) (by decide +kernel)) (hts (.initialized RX4) (by decide +kernel)) hK hP hD hS hA rfl (fun j hj => by rcases (show j = 0 by omega) with rfl <;> rfl) (Nat.le_of_ble_eq_true rfl) (Nat.le_of_ble_eq_true rfl) dX6_init_5 (fun q5 H hP hD hS => ?_)
  have hP : va_P D vwCl [(h0, .inr (5, [.null, .null])), (q5, .inr (3, [.null]))] H := hP
  have hD : va_D (va_A [(h0, .inr (5, [.null, .null]))] s.heap.size) [(h0, .inr (5, [.null, .null])), (q5, .inr (3, [.null]))] := hD
  refine W.widen (k := 1) (n := 1) (by omega) (by omega) ?_
  refine lv_dup hx hb dX6_init_8 rfl ?_
  refine lv_bipush (v := 60) hx hb dX6_init_9 (by decide) ?_
  refine nu_callv (As := [.int 60]) (rest := [.ref q5, .ref h0]) (wr := [(h0, .inr (5, [.null, .null]))]) ⟨hx, hb, hml, hown, hts⟩ (c_X4_init l D cJ q5 60 (by decide)) (cwI 1 hts gX6_init_X4_init rfl rfl rfl (hts (.initialized RX4) (by decide +kernel)) (hts (.methodLink RX6 11 yX4_init) (by decide +kernel)) (hts (.instanceMethod yX4_init) (by decide +kernel)) rfl (by decide +kernel) ⟨(Nat.le_of_ble_eq_true rfl), (Nat.le_of_ble_eq_true rfl)⟩) rfl hl.1 (lv_room (Nat.le_of_ble_eq_true rfl)) dX6_init_11 ⟨(Nat.le_of_ble_eq_true rfl), (Nat.le_of_ble_eq_true rfl)⟩ hS hA rfl hK hP hD [1] [0] rfl rfl (by decide) rfl (by decide) (by decide) (fun u H locs hw hP hD hS => ?_)
  obtain ⟨a1, rfl⟩ := hw
  have hP : va_P D vwCl [(h0, .inr (5, [.null, .null])), (q5, .inr (3, [.ref a1])), (a1, .inl (cJ, 60, .inr (.inl (fun _ => 0))))] H := hP
  have hD : va_D (va_A [(h0, .inr (5, [.null, .null]))] s.heap.size) [(h0, .inr (5, [.null, .null])), (q5, .inr (3, [.ref a1])), (a1, .inl (cJ, 60, .inr (.inl (fun _ => 0))))] := hD
  refine W.widen (k := 2) (n := 61) (by omega) (by omega) ?_
  refine va_putF (D := D) (ci := 5) (v := .ref q5) (ty := .object "Shingletrack$Row") (C := RX6) (T := TX6) (N := 2) hx hb hts (by decide +kernel) tyX6 tyX6_ok nmX6 hown hK hP hD hS 0 rfl rfl 0 (by decide) (hts (.fieldLink RX6 14 "Shingletrack$Store" "words" "LShingletrack$Row;") (by decide +kernel)) (fun _ h9 => h9) rfl hin rfl (by decide +kernel) rfl rfl (Nat.le_of_ble_eq_true rfl) dX6_init_14 (fun H locs hP hD hS => ?_)
  have hP : va_P D vwCl [(h0, .inr (5, [.ref q5, .null])), (q5, .inr (3, [.ref a1])), (a1, .inl (cJ, 60, .inr (.inl (fun _ => 0))))] H := hP
  have hD : va_D (va_A [(h0, .inr (5, [.null, .null]))] s.heap.size) [(h0, .inr (5, [.ref q5, .null])), (q5, .inr (3, [.ref a1])), (a1, .inl (cJ, 60, .inr (.inl (fun _ => 0))))] := hD
  refine lv_aload_n hx hb dX6_init_17 rfl (lv_at hl 0 rfl) ?_
  refine va_new (ci := 3) (fs := [.null]) (C := RX4) (T := TX4) (N := 1) hx hb hts (by decide +kernel) tyX4 tyX4_ok hown (hts (.classLink RX6 9 RX4) (by decide +kernel)) (hts (.instantiable RX4 1) (by decide +kernel)) (hts (.initialized RX4) (by decide +kernel)) hK hP hD hS hA rfl (fun j hj => by rcases (show j = 0 by omega) with rfl <;> rfl) (Nat.le_of_ble_eq_true rfl) (Nat.le_of_ble_eq_true rfl) dX6_init_18 (fun q18 H hP hD hS => ?_)
  have hP : va_P D vwCl [(h0, .inr (5, [.ref q5, .null])), (q5, .inr (3, [.ref a1])), (a1, .inl (cJ, 60, .inr (.inl (fun _ => 0)))), (q18, .inr (3, [.null]))] H := hP
  have hD : va_D (va_A [(h0, .inr (5, [.null, .null]))] s.heap.size) [(h0, .inr (5, [.ref q5, .null])), (q5, .inr (3, [.ref a1])), (a1, .inl (cJ, 60, .inr (.inl (fun _ => 0)))), (q18, .inr (3, [.null]))] := hD
  refine W.widen (k := 3) (n := 62) (by omega) (by omega) ?_
  refine lv_dup hx hb dX6_init_21 rfl ?_
  refine lv_bipush (v := 60) hx hb dX6_init_22 (by decide) ?_
  refine nu_callv (As := [.int 60]) (rest := [.ref q18, .ref h0]) (wr := [(h0, .inr (5, [.ref q5, .null])), (q5, .inr (3, [.ref a1])), (a1, .inl (cJ, 60, .inr (.inl (fun _ => 0))))]) ⟨hx, hb, hml, hown, hts⟩ (c_X4_init l D cJ q18 60 (by decide)) (cwI 1 hts gX6_init_X4_init rfl rfl rfl (hts (.initialized RX4) (by decide +kernel)) (hts (.methodLink RX6 11 yX4_init) (by decide +kernel)) (hts (.instanceMethod yX4_init) (by decide +kernel)) rfl (by decide +kernel) ⟨(Nat.le_of_ble_eq_true rfl), (Nat.le_of_ble_eq_true rfl)⟩) rfl hl.1 (lv_room (Nat.le_of_ble_eq_true rfl)) dX6_init_24 ⟨(Nat.le_of_ble_eq_true rfl), (Nat.le_of_ble_eq_true rfl)⟩ hS hA rfl hK hP hD [3] [0, 1, 2] rfl rfl (by decide) rfl (by decide) (by decide) (fun u H locs hw hP hD hS => ?_)
  obtain ⟨a2, rfl⟩ := hw
  have hP : va_P D vwCl [(h0, .inr (5, [.ref q5, .null])), (q5, .inr (3, [.ref a1])), (a1, .inl (cJ, 60, .inr (.inl (fun _ => 0)))), (q18, .inr (3, [.ref a2])), (a2, .inl (cJ, 60, .inr (.inl (fun _ => 0))))] H := hP
  have hD : va_D (va_A [(h0, .inr (5, [.null, .null]))] s.heap.size) [(h0, .inr (5, [.ref q5, .null])), (q5, .inr (3, [.ref a1])), (a1, .inl (cJ, 60, .inr (.inl (fun _ => 0)))), (q18, .inr (3, [.ref a2])), (a2, .inl (cJ, 60, .inr (.inl (fun _ => 0))))] := hD
  refine W.widen (k := 4) (n := 122) (by omega) (by omega) ?_
  refine va_putF (D := D) (ci := 5) (v := .ref q18) (ty := .object "Shingletrack$Row") (C := RX6) (T := TX6) (N := 2) hx hb hts (by decide +kernel) tyX6 tyX6_ok nmX6 hown hK hP hD hS 0 rfl rfl 1 (by decide) (hts (.fieldLink RX6 20 "Shingletrack$Store" "weaks" "LShingletrack$Row;") (by decide +kernel)) (fun _ h9 => h9) rfl hin rfl (by decide +kernel) rfl rfl (Nat.le_of_ble_eq_true rfl) dX6_init_27 (fun H locs hP hD hS => ?_)
  have hP : va_P D vwCl [(h0, .inr (5, [.ref q5, .ref q18])), (q5, .inr (3, [.ref a1])), (a1, .inl (cJ, 60, .inr (.inl (fun _ => 0)))), (q18, .inr (3, [.ref a2])), (a2, .inl (cJ, 60, .inr (.inl (fun _ => 0))))] H := hP
  have hD : va_D (va_A [(h0, .inr (5, [.null, .null]))] s.heap.size) [(h0, .inr (5, [.ref q5, .ref q18])), (q5, .inr (3, [.ref a1])), (a1, .inl (cJ, 60, .inr (.inl (fun _ => 0)))), (q18, .inr (3, [.ref a2])), (a2, .inl (cJ, 60, .inr (.inl (fun _ => 0))))] := hD
  refine lv_aload_n hx hb dX6_init_30 rfl (lv_at hl 0 rfl) ?_
  refine va_get (D := D) (ci := 5) (v := .ref q5) (C := RX6) (T := TX6) (N := 2) hx hb hts (by decide +kernel) hown hK hP 0 rfl rfl 0 (by decide) (hts (.fieldLink RX6 14 "Shingletrack$Store" "words" "LShingletrack$Row;") (by decide +kernel)) (fun _ h9 => h9) rfl dX6_init_31 ?_
  refine lv_ldc2 (v := (-1)) hx hb hown (hts (.constantLong RX6 23 (-1)) (by decide +kernel)) dX6_init_34 ?_
  refine wu_callv (wr := [(h0, .inr (5, [.ref q5, .ref q18])), (q18, .inr (3, [.ref a2])), (a2, .inl (cJ, 60, .inr (.inl (fun _ => 0))))]) (wn := [(h0, .inr (5, [.ref q5, .ref q18])), (q5, .inr (3, [.ref a1])), (a1, .inl (cJ, 60, .inr (.inl (fFil (fun _ => 0) (-1) 60)))), (q18, .inr (3, [.ref a2])), (a2, .inl (cJ, 60, .inr (.inl (fun _ => 0))))]) (As := [.long (-1)]) (rest := []) ⟨hx, hb, hml, hown, hts⟩ (c_X4_fill l D cJ q5 a1 60 (by decide) (fun _ => 0) (-1)) (cwV 1 hts gX6_init_X4_fill rfl rfl rfl (by decide +kernel) ⟨(Nat.le_of_ble_eq_true rfl), (Nat.le_of_ble_eq_true rfl)⟩) (va_recv hK hP (ci := 3) (q0 := 1) rfl rfl) rfl hl.1 (lv_room (Nat.le_of_ble_eq_true rfl)) dX6_init_37 ⟨(Nat.le_of_ble_eq_true rfl), (Nat.le_of_ble_eq_true rfl)⟩ hS hA rfl hK hP hD [1, 2] [0, 3, 4] [0, 3, 4, 1, 2] rfl rfl (by decide) rfl (by decide) (by decide) rfl rfl (by decide) (fun H locs hP hD hS => ?_)
  have hP9 := hP.sub (ws' := [(h0, .inr (5, [.ref q5, .ref q18])), (q5, .inr (3, [.ref a1])), (a1, .inl (cJ, 60, .inr (.inl (fFil (fun _ => 0) (-1) 60))))]) [0, 1, 2] rfl
  have hD9 := hD.sub (ws' := [(h0, .inr (5, [.ref q5, .ref q18])), (q5, .inr (3, [.ref a1])), (a1, .inl (cJ, 60, .inr (.inl (fFil (fun _ => 0) (-1) 60))))]) [0, 1, 2] (by decide) rfl
  exact W.vret hx hb hr (fun t ht hW => ⟨⟨_, rfl, ⟨q5, a1, q18, rfl⟩, (by rw [ht]; exact hP9), va_K.moved hW.alike hK, hD9⟩, hS.F ht⟩) hS.2.2 dX6_init_40
set_option maxHeartbeats 4000000 in
set_option maxRecDepth 100000 in
theorem c_X3_init (l : Launch) (D : va_G) (cJ : ClassId) (h0 : Nat) : nc l yX3_init wsX3_init ({ frames := 3, cells := 22, slots := 557, locals := 53 } : Room) [.ref h0] D cJ [(h0, .inr (2, [.null, .null, .null, .null, .null, .null, .null, .null, .int 0, .int 0, .int 0, .int 0, .int 0]))] (fun u => ∃ v1 v2 v3 v4 v5 v6 v7 v8 v9 v10 v11 v12 v13 v14 v15 : Nat, u = [(h0, .inr (2, [.ref v1, .ref v4, .ref v9, .ref v10, .ref v11, .ref v12, .ref v7, .ref v13, .int 0, .int 0, .int 0, .int 0, .int 0])), (v1, .inr (5, [.ref v2, .ref v14])), (v2, .inr (3, [.ref v3])), (v3, .inl (cJ, 60, .inr (.inl (fFil (fun _ => 0) (-1) 60)))), (v4, .inr (5, [.ref v5, .ref v15])), (v5, .inr (3, [.ref v6])), (v6, .inl (cJ, 60, .inr (.inl (fFil (fun _ => 0) (-1) 60)))), (v7, .inr (3, [.ref v8])), (v8, .inl (cJ, 60, .inr (.inl (fFil (fun _ => 0) (-1) 60))))]) 22 557 := by
  intro sz
  refine Met.ofW (cc := cX3_init) (maxL := 1) (ret := none) (by decide) rfl ?_
  intro p e s m args below meth c s₁ B hml hv
  obtain ⟨rfl, rfl, hP, hK, hD0⟩ := hv
  have hx := B.exec
  have hb := B.bytes
  have hr := B.returns
  have hts := atoms_spec (ws := wsX3_init) B.pre
  have hown : s.vm.findClass RX3 = some m.cls := findClass_of_methodNamed B.named
  have hlocks := B.notSynchronized
  have hin : meth.name = "<init>" := (name_of_methodNamed B.named B.method).1
  have hS : va_S (va_A [(h0, .inr (2, [.null, .null, .null, .null, .null, .null, .null, .null, .int 0, .int 0, .int 0, .int 0, .int 0]))] s.heap.size) s.heap s.heap [] := va_S.rf
  have hD := hD0.self (sz := s.heap.size)
  have hA : ∀ q : Nat, s.heap.size ≤ q → (va_A [(h0, .inr (2, [.null, .null, .null, .null, .null, .null, .null, .null, .int 0, .int 0, .int 0, .int 0, .int 0]))] s.heap.size) q := fun _ h => Or.inr h
  have hl := lv_entry ([.ref h0]) (n := 1) (Nat.le_of_ble_eq_true rfl)
  rw [lg_entry_eq]
  generalize (lg_sl ([.ref h0]) ++ List.replicate (1 - (lg_sl ([.ref h0])).length) Slot.unset).toArray = ls at hl ⊢
  have hl : lv_has ls 1 [(0, .ref h0)] := hl
  have hP : va_P D vwCl [(h0, .inr (2, [.null, .null, .null, .null, .null, .null, .null, .null, .int 0, .int 0, .int 0, .int 0, .int 0]))] s.heap := hP
  refine lv_aload_n hx hb dX3_init_0 rfl (lv_at hl 0 rfl) ?_
  refine W.objInit hx hb hown (hts (.methodLink RX3 3 objectInit) (by decide +kernel)) (hts (.instanceMethod objectInit) (by decide +kernel)) (hts _ (List.mem_of_getElem? (i := 3) rfl)) rfl (by rw [hml]; exact hl.1) rfl dX3_init_1 (Nat.le_of_ble_eq_true rfl) (Nat.le_of_ble_eq_true rfl) ?_
  refine W.eq (g2 := F0 m 4 ls []) rfl ?_
  refine lv_aload_n hx hb dX3_init_4 rfl (lv_at hl 0 rfl) ?_
  refine va_new (ci := 5) (fs := [.null, .null]) (C := RX6) (T := TX6) (N := 2) hx hb hts (by decide +kernel) tyX6 tyX6_ok hown (hts (.classLink RX3 9 RX6) (by decide +kernel)) (hts (.instantiable RX6 2) (by decide +kernel)) (hts (.initialized RX6) (by decide +kernel)) hK hP hD hS hA rfl (fun j hj => by rcases (show j = 0 ∨ j = 1 by omega) with rfl | rfl <;> rfl) (Nat.le_of_ble_eq_true rfl) (Nat.le_of_ble_eq_true rfl) dX3_init_5 (fun q5 H hP hD hS => ?_)
  have hP : va_P D vwCl [(h0, .inr (2, [.null, .null, .null, .null, .null, .null, .null, .null, .int 0, .int 0, .int 0, .int 0, .int 0])), (q5, .inr (5, [.null, .null]))] H := hP
  have hD : va_D (va_A [(h0, .inr (2, [.null, .null, .null, .null, .null, .null, .null, .null, .int 0, .int 0, .int 0, .int 0, .int 0]))] s.heap.size) [(h0, .inr (2, [.null, .null, .null, .null, .null, .null, .null, .null, .int 0, .int 0, .int 0, .int 0, .int 0])), (q5, .inr (5, [.null, .null]))] := hD
  refine W.widen (k := 1) (n := 2) (by omega) (by omega) ?_
  refine lv_dup hx hb dX3_init_8 rfl ?_
  refine nu_callv (As := []) (rest := [.ref q5, .ref h0]) (wr := [(h0, .inr (2, [.null, .null, .null, .null, .null, .null, .null, .null, .int 0, .int 0, .int 0, .int 0, .int 0]))]) ⟨hx, hb, hml, hown, hts⟩ (c_X6_init l D cJ q5) (cwI 0 hts gX3_init_X6_init rfl rfl rfl (hts (.initialized RX6) (by decide +kernel)) (hts (.methodLink RX3 11 yX6_init) (by decide +kernel)) (hts (.instanceMethod yX6_init) (by decide +kernel)) rfl (by decide +kernel) ⟨(Nat.le_of_ble_eq_true rfl), (Nat.le_of_ble_eq_true rfl)⟩) rfl hl.1 (lv_room (Nat.le_of_ble_eq_true rfl)) dX3_init_9 ⟨(Nat.le_of_ble_eq_true rfl), (Nat.le_of_ble_eq_true rfl)⟩ hS hA rfl hK hP hD [1] [0] rfl rfl (by decide) rfl (by decide) (by decide) (fun u H locs hw hP hD hS => ?_)
  obtain ⟨b1_v1, b1_v2, b1_v3, rfl⟩ := hw
  have hP : va_P D vwCl [(h0, .inr (2, [.null, .null, .null, .null, .null, .null, .null, .null, .int 0, .int 0, .int 0, .int 0, .int 0])), (q5, .inr (5, [.ref b1_v1, .ref b1_v3])), (b1_v1, .inr (3, [.ref b1_v2])), (b1_v2, .inl (cJ, 60, .inr (.inl (fFil (fun _ => 0) (-1) 60))))] H := hP
  have hD : va_D (va_A [(h0, .inr (2, [.null, .null, .null, .null, .null, .null, .null, .null, .int 0, .int 0, .int 0, .int 0, .int 0]))] s.heap.size) [(h0, .inr (2, [.null, .null, .null, .null, .null, .null, .null, .null, .int 0, .int 0, .int 0, .int 0, .int 0])), (q5, .inr (5, [.ref b1_v1, .ref b1_v3])), (b1_v1, .inr (3, [.ref b1_v2])), (b1_v2, .inl (cJ, 60, .inr (.inl (fFil (fun _ => 0) (-1) 60))))] := hD
  refine W.widen (k := 5) (n := 124) (by omega) (by omega) ?_
  refine va_putF (D := D) (ci := 2) (v := .ref q5) (ty := .object "Shingletrack$Store") (C := RX3) (T := TX3) (N := 13) hx hb hts (by decide +kernel) tyX3 tyX3_ok nmX3 hown hK hP hD hS 0 rfl rfl 0 (by decide) (hts (.fieldLink RX3 12 "Shingletrack$Platter" "bandStore" "LShingletrack$Store;") (by decide +kernel)) (fun _ h9 => h9) rfl hin rfl (by decide +kernel) rfl rfl (Nat.le_of_ble_eq_true rfl) dX3_init_12 (fun H locs hP hD hS => ?_)
  have hP : va_P D vwCl [(h0, .inr (2, [.ref q5, .null, .null, .null, .null, .null, .null, .null, .int 0, .int 0, .int 0, .int 0, .int 0])), (q5, .inr (5, [.ref b1_v1, .ref b1_v3])), (b1_v1, .inr (3, [.ref b1_v2])), (b1_v2, .inl (cJ, 60, .inr (.inl (fFil (fun _ => 0) (-1) 60))))] H := hP
  have hD : va_D (va_A [(h0, .inr (2, [.null, .null, .null, .null, .null, .null, .null, .null, .int 0, .int 0, .int 0, .int 0, .int 0]))] s.heap.size) [(h0, .inr (2, [.ref q5, .null, .null, .null, .null, .null, .null, .null, .int 0, .int 0, .int 0, .int 0, .int 0])), (q5, .inr (5, [.ref b1_v1, .ref b1_v3])), (b1_v1, .inr (3, [.ref b1_v2])), (b1_v2, .inl (cJ, 60, .inr (.inl (fFil (fun _ => 0) (-1) 60))))] := hD
  refine lv_aload_n hx hb dX3_init_15 rfl (lv_at hl 0 rfl) ?_
  refine va_new (ci := 5) (fs := [.null, .null]) (C := RX6) (T := TX6) (N := 2) hx hb hts (by decide +kernel) tyX6 tyX6_ok hown (hts (.classLink RX3 9 RX6) (by decide +kernel)) (hts (.instantiable RX6 2) (by decide +kernel)) (hts (.initialized RX6) (by decide +kernel)) hK hP hD hS hA rfl (fun j hj => by rcases (show j = 0 ∨ j = 1 by omega) with rfl | rfl <;> rfl) (Nat.le_of_ble_eq_true rfl) (Nat.le_of_ble_eq_true rfl) dX3_init_16 (fun q16 H hP hD hS => ?_)
  have hP : va_P D vwCl [(h0, .inr (2, [.ref q5, .null, .null, .null, .null, .null, .null, .null, .int 0, .int 0, .int 0, .int 0, .int 0])), (q5, .inr (5, [.ref b1_v1, .ref b1_v3])), (b1_v1, .inr (3, [.ref b1_v2])), (b1_v2, .inl (cJ, 60, .inr (.inl (fFil (fun _ => 0) (-1) 60)))), (q16, .inr (5, [.null, .null]))] H := hP
  have hD : va_D (va_A [(h0, .inr (2, [.null, .null, .null, .null, .null, .null, .null, .null, .int 0, .int 0, .int 0, .int 0, .int 0]))] s.heap.size) [(h0, .inr (2, [.ref q5, .null, .null, .null, .null, .null, .null, .null, .int 0, .int 0, .int 0, .int 0, .int 0])), (q5, .inr (5, [.ref b1_v1, .ref b1_v3])), (b1_v1, .inr (3, [.ref b1_v2])), (b1_v2, .inl (cJ, 60, .inr (.inl (fFil (fun _ => 0) (-1) 60)))), (q16, .inr (5, [.null, .null]))] := hD
  refine W.widen (k := 6) (n := 126) (by omega) (by omega) ?_
  refine lv_dup hx hb dX3_init_19 rfl ?_
  refine nu_callv (As := []) (rest := [.ref q16, .ref h0]) (wr := [(h0, .inr (2, [.ref q5, .null, .null, .null, .null, .null, .null, .null, .int 0, .int 0, .int 0, .int 0, .int 0])), (q5, .inr (5, [.ref b1_v1, .ref b1_v3])), (b1_v1, .inr (3, [.ref b1_v2])), (b1_v2, .inl (cJ, 60, .inr (.inl (fFil (fun _ => 0) (-1) 60))))]) ⟨hx, hb, hml, hown, hts⟩ (c_X6_init l D cJ q16) (cwI 0 hts gX3_init_X6_init rfl rfl rfl (hts (.initialized RX6) (by decide +kernel)) (hts (.methodLink RX3 11 yX6_init) (by decide +kernel)) (hts (.instanceMethod yX6_init) (by decide +kernel)) rfl (by decide +kernel) ⟨(Nat.le_of_ble_eq_true rfl), (Nat.le_of_ble_eq_true rfl)⟩) rfl hl.1 (lv_room (Nat.le_of_ble_eq_true rfl)) dX3_init_20 ⟨(Nat.le_of_ble_eq_true rfl), (Nat.le_of_ble_eq_true rfl)⟩ hS hA rfl hK hP hD [4] [0, 1, 2, 3] rfl rfl (by decide) rfl (by decide) (by decide) (fun u H locs hw hP hD hS => ?_)
  obtain ⟨b2_v1, b2_v2, b2_v3, rfl⟩ := hw
  have hP : va_P D vwCl [(h0, .inr (2, [.ref q5, .null, .null, .null, .null, .null, .null, .null, .int 0, .int 0, .int 0, .int 0, .int 0])), (q5, .inr (5, [.ref b1_v1, .ref b1_v3])), (b1_v1, .inr (3, [.ref b1_v2])), (b1_v2, .inl (cJ, 60, .inr (.inl (fFil (fun _ => 0) (-1) 60)))), (q16, .inr (5, [.ref b2_v1, .ref b2_v3])), (b2_v1, .inr (3, [.ref b2_v2])), (b2_v2, .inl (cJ, 60, .inr (.inl (fFil (fun _ => 0) (-1) 60))))] H := hP
  have hD : va_D (va_A [(h0, .inr (2, [.null, .null, .null, .null, .null, .null, .null, .null, .int 0, .int 0, .int 0, .int 0, .int 0]))] s.heap.size) [(h0, .inr (2, [.ref q5, .null, .null, .null, .null, .null, .null, .null, .int 0, .int 0, .int 0, .int 0, .int 0])), (q5, .inr (5, [.ref b1_v1, .ref b1_v3])), (b1_v1, .inr (3, [.ref b1_v2])), (b1_v2, .inl (cJ, 60, .inr (.inl (fFil (fun _ => 0) (-1) 60)))), (q16, .inr (5, [.ref b2_v1, .ref b2_v3])), (b2_v1, .inr (3, [.ref b2_v2])), (b2_v2, .inl (cJ, 60, .inr (.inl (fFil (fun _ => 0) (-1) 60))))] := hD
  refine W.widen (k := 10) (n := 248) (by omega) (by omega) ?_
  refine va_putF (D := D) (ci := 2) (v := .ref q16) (ty := .object "Shingletrack$Store") (C := RX3) (T := TX3) (N := 13) hx hb hts (by decide +kernel) tyX3 tyX3_ok nmX3 hown hK hP hD hS 0 rfl rfl 1 (by decide) (hts (.fieldLink RX3 18 "Shingletrack$Platter" "zone" "LShingletrack$Store;") (by decide +kernel)) (fun _ h9 => h9) rfl hin rfl (by decide +kernel) rfl rfl (Nat.le_of_ble_eq_true rfl) dX3_init_23 (fun H locs hP hD hS => ?_)
  have hP : va_P D vwCl [(h0, .inr (2, [.ref q5, .ref q16, .null, .null, .null, .null, .null, .null, .int 0, .int 0, .int 0, .int 0, .int 0])), (q5, .inr (5, [.ref b1_v1, .ref b1_v3])), (b1_v1, .inr (3, [.ref b1_v2])), (b1_v2, .inl (cJ, 60, .inr (.inl (fFil (fun _ => 0) (-1) 60)))), (q16, .inr (5, [.ref b2_v1, .ref b2_v3])), (b2_v1, .inr (3, [.ref b2_v2])), (b2_v2, .inl (cJ, 60, .inr (.inl (fFil (fun _ => 0) (-1) 60))))] H := hP
  have hD : va_D (va_A [(h0, .inr (2, [.null, .null, .null, .null, .null, .null, .null, .null, .int 0, .int 0, .int 0, .int 0, .int 0]))] s.heap.size) [(h0, .inr (2, [.ref q5, .ref q16, .null, .null, .null, .null, .null, .null, .int 0, .int 0, .int 0, .int 0, .int 0])), (q5, .inr (5, [.ref b1_v1, .ref b1_v3])), (b1_v1, .inr (3, [.ref b1_v2])), (b1_v2, .inl (cJ, 60, .inr (.inl (fFil (fun _ => 0) (-1) 60)))), (q16, .inr (5, [.ref b2_v1, .ref b2_v3])), (b2_v1, .inr (3, [.ref b2_v2])), (b2_v2, .inl (cJ, 60, .inr (.inl (fFil (fun _ => 0) (-1) 60))))] := hD
  refine lv_aload_n hx hb dX3_init_26 rfl (lv_at hl 0 rfl) ?_
  refine va_new (ci := 3) (fs := [.null]) (C := RX4) (T := TX4) (N := 1) hx hb hts (by decide +kernel) tyX4 tyX4_ok hown (hts (.classLink RX3 21 RX4) (by decide +kernel)) (hts (.instantiable RX4 1) (by decide +kernel)) (hts (.initialized RX4) (by decide +kernel)) hK hP hD hS hA rfl (fun j hj => by rcases (show j = 0 by omega) with rfl <;> rfl) (Nat.le_of_ble_eq_true rfl) (Nat.le_of_ble_eq_true rfl) dX3_init_27 (fun q27 H hP hD hS => ?_)
  have hP : va_P D vwCl [(h0, .inr (2, [.ref q5, .ref q16, .null, .null, .null, .null, .null, .null, .int 0, .int 0, .int 0, .int 0, .int 0])), (q5, .inr (5, [.ref b1_v1, .ref b1_v3])), (b1_v1, .inr (3, [.ref b1_v2])), (b1_v2, .inl (cJ, 60, .inr (.inl (fFil (fun _ => 0) (-1) 60)))), (q16, .inr (5, [.ref b2_v1, .ref b2_v3])), (b2_v1, .inr (3, [.ref b2_v2])), (b2_v2, .inl (cJ, 60, .inr (.inl (fFil (fun _ => 0) (-1) 60)))), (q27, .inr (3, [.null]))] H := hP
  have hD : va_D (va_A [(h0, .inr (2, [.null, .null, .null, .null, .null, .null, .null, .null, .int 0, .int 0, .int 0, .int 0, .int 0]))] s.heap.size) [(h0, .inr (2, [.ref q5, .ref q16, .null, .null, .null, .null, .null, .null, .int 0, .int 0, .int 0, .int 0, .int 0])), (q5, .inr (5, [.ref b1_v1, .ref b1_v3])), (b1_v1, .inr (3, [.ref b1_v2])), (b1_v2, .inl (cJ, 60, .inr (.inl (fFil (fun _ => 0) (-1) 60)))), (q16, .inr (5, [.ref b2_v1, .ref b2_v3])), (b2_v1, .inr (3, [.ref b2_v2])), (b2_v2, .inl (cJ, 60, .inr (.inl (fFil (fun _ => 0) (-1) 60)))), (q27, .inr (3, [.null]))] := hD
  refine W.widen (k := 11) (n := 249) (by omega) (by omega) ?_
  refine lv_dup hx hb dX3_init_30 rfl ?_
  refine lv_iconst (v := 3) hx hb dX3_init_31 (by decide) ?_
  refine nu_callv (As := [.int 3]) (rest := [.ref q27, .ref h0]) (wr := [(h0, .inr (2, [.ref q5, .ref q16, .null, .null, .null, .null, .null, .null, .int 0, .int 0, .int 0, .int 0, .int 0])), (q5, .inr (5, [.ref b1_v1, .ref b1_v3])), (b1_v1, .inr (3, [.ref b1_v2])), (b1_v2, .inl (cJ, 60, .inr (.inl (fFil (fun _ => 0) (-1) 60)))), (q16, .inr (5, [.ref b2_v1, .ref b2_v3])), (b2_v1, .inr (3, [.ref b2_v2])), (b2_v2, .inl (cJ, 60, .inr (.inl (fFil (fun _ => 0) (-1) 60))))]) ⟨hx, hb, hml, hown, hts⟩ (c_X4_init l D cJ q27 3 (by decide)) (cwI 1 hts gX3_init_X4_init rfl rfl rfl (hts (.initialized RX4) (by decide +kernel)) (hts (.methodLink RX3 23 yX4_init) (by decide +kernel)) (hts (.instanceMethod yX4_init) (by decide +kernel)) rfl (by decide +kernel) ⟨(Nat.le_of_ble_eq_true rfl), (Nat.le_of_ble_eq_true rfl)⟩) rfl hl.1 (lv_room (Nat.le_of_ble_eq_true rfl)) dX3_init_32 ⟨(Nat.le_of_ble_eq_true rfl), (Nat.le_of_ble_eq_true rfl)⟩ hS hA rfl hK hP hD [7] [0, 1, 2, 3, 4, 5, 6] rfl rfl (by decide) rfl (by decide) (by decide) (fun u H locs hw hP hD hS => ?_)
  obtain ⟨a3, rfl⟩ := hw
  have hP : va_P D vwCl [(h0, .inr (2, [.ref q5, .ref q16, .null, .null, .null, .null, .null, .null, .int 0, .int 0, .int 0, .int 0, .int 0])), (q5, .inr (5, [.ref b1_v1, .ref b1_v3])), (b1_v1, .inr (3, [.ref b1_v2])), (b1_v2, .inl (cJ, 60, .inr (.inl (fFil (fun _ => 0) (-1) 60)))), (q16, .inr (5, [.ref b2_v1, .ref b2_v3])), (b2_v1, .inr (3, [.ref b2_v2])), (b2_v2, .inl (cJ, 60, .inr (.inl (fFil (fun _ => 0) (-1) 60)))), (q27, .inr (3, [.ref a3])), (a3, .inl (cJ, 3, .inr (.inl (fun _ => 0))))] H := hP
  have hD : va_D (va_A [(h0, .inr (2, [.null, .null, .null, .null, .null, .null, .null, .null, .int 0, .int 0, .int 0, .int 0, .int 0]))] s.heap.size) [(h0, .inr (2, [.ref q5, .ref q16, .null, .null, .null, .null, .null, .null, .int 0, .int 0, .int 0, .int 0, .int 0])), (q5, .inr (5, [.ref b1_v1, .ref b1_v3])), (b1_v1, .inr (3, [.ref b1_v2])), (b1_v2, .inl (cJ, 60, .inr (.inl (fFil (fun _ => 0) (-1) 60)))), (q16, .inr (5, [.ref b2_v1, .ref b2_v3])), (b2_v1, .inr (3, [.ref b2_v2])), (b2_v2, .inl (cJ, 60, .inr (.inl (fFil (fun _ => 0) (-1) 60)))), (q27, .inr (3, [.ref a3])), (a3, .inl (cJ, 3, .inr (.inl (fun _ => 0))))] := hD
  refine W.widen (k := 12) (n := 252) (by omega) (by omega) ?_
  refine va_putF (D := D) (ci := 2) (v := .ref q27) (ty := .object "Shingletrack$Row") (C := RX3) (T := TX3) (N := 13) hx hb hts (by decide +kernel) tyX3 tyX3_ok nmX3 hown hK hP hD hS 0 rfl rfl 2 (by decide) (hts (.fieldLink RX3 26 "Shingletrack$Platter" "ends" "LShingletrack$Row;") (by decide +kernel)) (fun _ h9 => h9) rfl hin rfl (by decide +kernel) rfl rfl (Nat.le_of_ble_eq_true rfl) dX3_init_35 (fun H locs hP hD hS => ?_)
  have hP : va_P D vwCl [(h0, .inr (2, [.ref q5, .ref q16, .ref q27, .null, .null, .null, .null, .null, .int 0, .int 0, .int 0, .int 0, .int 0])), (q5, .inr (5, [.ref b1_v1, .ref b1_v3])), (b1_v1, .inr (3, [.ref b1_v2])), (b1_v2, .inl (cJ, 60, .inr (.inl (fFil (fun _ => 0) (-1) 60)))), (q16, .inr (5, [.ref b2_v1, .ref b2_v3])), (b2_v1, .inr (3, [.ref b2_v2])), (b2_v2, .inl (cJ, 60, .inr (.inl (fFil (fun _ => 0) (-1) 60)))), (q27, .inr (3, [.ref a3])), (a3, .inl (cJ, 3, .inr (.inl (fun _ => 0))))] H := hP
  have hD : va_D (va_A [(h0, .inr (2, [.null, .null, .null, .null, .null, .null, .null, .null, .int 0, .int 0, .int 0, .int 0, .int 0]))] s.heap.size) [(h0, .inr (2, [.ref q5, .ref q16, .ref q27, .null, .null, .null, .null, .null, .int 0, .int 0, .int 0, .int 0, .int 0])), (q5, .inr (5, [.ref b1_v1, .ref b1_v3])), (b1_v1, .inr (3, [.ref b1_v2])), (b1_v2, .inl (cJ, 60, .inr (.inl (fFil (fun _ => 0) (-1) 60)))), (q16, .inr (5, [.ref b2_v1, .ref b2_v3])), (b2_v1, .inr (3, [.ref b2_v2])), (b2_v2, .inl (cJ, 60, .inr (.inl (fFil (fun _ => 0) (-1) 60)))), (q27, .inr (3, [.ref a3])), (a3, .inl (cJ, 3, .inr (.inl (fun _ => 0))))] := hD
  refine lv_aload_n hx hb dX3_init_38 rfl (lv_at hl 0 rfl) ?_
  refine va_new (ci := 3) (fs := [.null]) (C := RX4) (T := TX4) (N := 1) hx hb hts (by decide +kernel) tyX4 tyX4_ok hown (hts (.classLink RX3 21 RX4) (by decide +kernel)) (hts (.instantiable RX4 1) (by decide +kernel)) (hts (.initialized RX4) (by decide +kernel)) hK hP hD hS hA rfl (fun j hj => by rcases (show j = 0 by omega) with rfl <;> rfl) (Nat.le_of_ble_eq_true rfl) (Nat.le_of_ble_eq_true rfl) dX3_init_39 (fun q39 H hP hD hS => ?_)
  have hP : va_P D vwCl [(h0, .inr (2, [.ref q5, .ref q16, .ref q27, .null, .null, .null, .null, .null, .int 0, .int 0, .int 0, .int 0, .int 0])), (q5, .inr (5, [.ref b1_v1, .ref b1_v3])), (b1_v1, .inr (3, [.ref b1_v2])), (b1_v2, .inl (cJ, 60, .inr (.inl (fFil (fun _ => 0) (-1) 60)))), (q16, .inr (5, [.ref b2_v1, .ref b2_v3])), (b2_v1, .inr (3, [.ref b2_v2])), (b2_v2, .inl (cJ, 60, .inr (.inl (fFil (fun _ => 0) (-1) 60)))), (q27, .inr (3, [.ref a3])), (a3, .inl (cJ, 3, .inr (.inl (fun _ => 0)))), (q39, .inr (3, [.null]))] H := hP
  have hD : va_D (va_A [(h0, .inr (2, [.null, .null, .null, .null, .null, .null, .null, .null, .int 0, .int 0, .int 0, .int 0, .int 0]))] s.heap.size) [(h0, .inr (2, [.ref q5, .ref q16, .ref q27, .null, .null, .null, .null, .null, .int 0, .int 0, .int 0, .int 0, .int 0])), (q5, .inr (5, [.ref b1_v1, .ref b1_v3])), (b1_v1, .inr (3, [.ref b1_v2])), (b1_v2, .inl (cJ, 60, .inr (.inl (fFil (fun _ => 0) (-1) 60)))), (q16, .inr (5, [.ref b2_v1, .ref b2_v3])), (b2_v1, .inr (3, [.ref b2_v2])), (b2_v2, .inl (cJ, 60, .inr (.inl (fFil (fun _ => 0) (-1) 60)))), (q27, .inr (3, [.ref a3])), (a3, .inl (cJ, 3, .inr (.inl (fun _ => 0)))), (q39, .inr (3, [.null]))] := hD
  refine W.widen (k := 13) (n := 253) (by omega) (by omega) ?_
  refine lv_dup hx hb dX3_init_42 rfl ?_
  refine lv_bipush (v := 60) hx hb dX3_init_43 (by decide) ?_
  refine nu_callv (As := [.int 60]) (rest := [.ref q39, .ref h0]) (wr := [(h0, .inr (2, [.ref q5, .ref q16, .ref q27, .null, .null, .null, .null, .null, .int 0, .int 0, .int 0, .int 0, .int 0])), (q5, .inr (5, [.ref b1_v1, .ref b1_v3])), (b1_v1, .inr (3, [.ref b1_v2])), (b1_v2, .inl (cJ, 60, .inr (.inl (fFil (fun _ => 0) (-1) 60)))), (q16, .inr (5, [.ref b2_v1, .ref b2_v3])), (b2_v1, .inr (3, [.ref b2_v2])), (b2_v2, .inl (cJ, 60, .inr (.inl (fFil (fun _ => 0) (-1) 60)))), (q27, .inr (3, [.ref a3])), (a3, .inl (cJ, 3, .inr (.inl (fun _ => 0))))]) ⟨hx, hb, hml, hown, hts⟩ (c_X4_init l D cJ q39 60 (by decide)) (cwI 1 hts gX3_init_X4_init rfl rfl rfl (hts (.initialized RX4) (by decide +kernel)) (hts (.methodLink RX3 23 yX4_init) (by decide +kernel)) (hts (.instanceMethod yX4_init) (by decide +kernel)) rfl (by decide +kernel) ⟨(Nat.le_of_ble_eq_true rfl), (Nat.le_of_ble_eq_true rfl)⟩) rfl hl.1 (lv_room (Nat.le_of_ble_eq_true rfl)) dX3_init_45 ⟨(Nat.le_of_ble_eq_true rfl), (Nat.le_of_ble_eq_true rfl)⟩ hS hA rfl hK hP hD [9] [0, 1, 2, 3, 4, 5, 6, 7, 8] rfl rfl (by decide) rfl (by decide) (by decide) (fun u H locs hw hP hD hS => ?_)
  obtain ⟨a4, rfl⟩ := hw
  have hP : va_P D vwCl [(h0, .inr (2, [.ref q5, .ref q16, .ref q27, .null, .null, .null, .null, .null, .int 0, .int 0, .int 0, .int 0, .int 0])), (q5, .inr (5, [.ref b1_v1, .ref b1_v3])), (b1_v1, .inr (3, [.ref b1_v2])), (b1_v2, .inl (cJ, 60, .inr (.inl (fFil (fun _ => 0) (-1) 60)))), (q16, .inr (5, [.ref b2_v1, .ref b2_v3])), (b2_v1, .inr (3, [.ref b2_v2])), (b2_v2, .inl (cJ, 60, .inr (.inl (fFil (fun _ => 0) (-1) 60)))), (q27, .inr (3, [.ref a3])), (a3, .inl (cJ, 3, .inr (.inl (fun _ => 0)))), (q39, .inr (3, [.ref a4])), (a4, .inl (cJ, 60, .inr (.inl (fun _ => 0))))] H := hP
  have hD : va_D (va_A [(h0, .inr (2, [.null, .null, .null, .null, .null, .null, .null, .null, .int 0, .int 0, .int 0, .int 0, .int 0]))] s.heap.size) [(h0, .inr (2, [.ref q5, .ref q16, .ref q27, .null, .null, .null, .null, .null, .int 0, .int 0, .int 0, .int 0, .int 0])), (q5, .inr (5, [.ref b1_v1, .ref b1_v3])), (b1_v1, .inr (3, [.ref b1_v2])), (b1_v2, .inl (cJ, 60, .inr (.inl (fFil (fun _ => 0) (-1) 60)))), (q16, .inr (5, [.ref b2_v1, .ref b2_v3])), (b2_v1, .inr (3, [.ref b2_v2])), (b2_v2, .inl (cJ, 60, .inr (.inl (fFil (fun _ => 0) (-1) 60)))), (q27, .inr (3, [.ref a3])), (a3, .inl (cJ, 3, .inr (.inl (fun _ => 0)))), (q39, .inr (3, [.ref a4])), (a4, .inl (cJ, 60, .inr (.inl (fun _ => 0))))] := hD
  refine W.widen (k := 14) (n := 313) (by omega) (by omega) ?_
  refine va_putF (D := D) (ci := 2) (v := .ref q39) (ty := .object "Shingletrack$Row") (C := RX3) (T := TX3) (N := 13) hx hb hts (by decide +kernel) tyX3 tyX3_ok nmX3 hown hK hP hD hS 0 rfl rfl 3 (by decide) (hts (.fieldLink RX3 30 "Shingletrack$Platter" "badPlaces" "LShingletrack$Row;") (by decide +kernel)) (fun _ h9 => h9) rfl hin rfl (by decide +kernel) rfl rfl (Nat.le_of_ble_eq_true rfl) dX3_init_48 (fun H locs hP hD hS => ?_)
  have hP : va_P D vwCl [(h0, .inr (2, [.ref q5, .ref q16, .ref q27, .ref q39, .null, .null, .null, .null, .int 0, .int 0, .int 0, .int 0, .int 0])), (q5, .inr (5, [.ref b1_v1, .ref b1_v3])), (b1_v1, .inr (3, [.ref b1_v2])), (b1_v2, .inl (cJ, 60, .inr (.inl (fFil (fun _ => 0) (-1) 60)))), (q16, .inr (5, [.ref b2_v1, .ref b2_v3])), (b2_v1, .inr (3, [.ref b2_v2])), (b2_v2, .inl (cJ, 60, .inr (.inl (fFil (fun _ => 0) (-1) 60)))), (q27, .inr (3, [.ref a3])), (a3, .inl (cJ, 3, .inr (.inl (fun _ => 0)))), (q39, .inr (3, [.ref a4])), (a4, .inl (cJ, 60, .inr (.inl (fun _ => 0))))] H := hP
  have hD : va_D (va_A [(h0, .inr (2, [.null, .null, .null, .null, .null, .null, .null, .null, .int 0, .int 0, .int 0, .int 0, .int 0]))] s.heap.size) [(h0, .inr (2, [.ref q5, .ref q16, .ref q27, .ref q39, .null, .null, .null, .null, .int 0, .int 0, .int 0, .int 0, .int 0])), (q5, .inr (5, [.ref b1_v1, .ref b1_v3])), (b1_v1, .inr (3, [.ref b1_v2])), (b1_v2, .inl (cJ, 60, .inr (.inl (fFil (fun _ => 0) (-1) 60)))), (q16, .inr (5, [.ref b2_v1, .ref b2_v3])), (b2_v1, .inr (3, [.ref b2_v2])), (b2_v2, .inl (cJ, 60, .inr (.inl (fFil (fun _ => 0) (-1) 60)))), (q27, .inr (3, [.ref a3])), (a3, .inl (cJ, 3, .inr (.inl (fun _ => 0)))), (q39, .inr (3, [.ref a4])), (a4, .inl (cJ, 60, .inr (.inl (fun _ => 0))))] := hD
  refine lv_aload_n hx hb dX3_init_51 rfl (lv_at hl 0 rfl) ?_
  refine va_new (ci := 3) (fs := [.null]) (C := RX4) (T := TX4) (N := 1) hx hb hts (by decide +kernel) tyX4 tyX4_ok hown (hts (.classLink RX3 21 RX4) (by decide +kernel)) (hts (.instantiable RX4 1) (by decide +kernel)) (hts (.initialized RX4) (by decide +kernel)) hK hP hD hS hA rfl (fun j hj => by rcases (show j = 0 by omega) with rfl <;> rfl) (Nat.le_of_ble_eq_true rfl) (Nat.le_of_ble_eq_true rfl) dX3_init_52 (fun q52 H hP hD hS => ?_)
  have hP : va_P D vwCl [(h0, .inr (2, [.ref q5, .ref q16, .ref q27, .ref q39, .null, .null, .null, .null, .int 0, .int 0, .int 0, .int 0, .int 0])), (q5, .inr (5, [.ref b1_v1, .ref b1_v3])), (b1_v1, .inr (3, [.ref b1_v2])), (b1_v2, .inl (cJ, 60, .inr (.inl (fFil (fun _ => 0) (-1) 60)))), (q16, .inr (5, [.ref b2_v1, .ref b2_v3])), (b2_v1, .inr (3, [.ref b2_v2])), (b2_v2, .inl (cJ, 60, .inr (.inl (fFil (fun _ => 0) (-1) 60)))), (q27, .inr (3, [.ref a3])), (a3, .inl (cJ, 3, .inr (.inl (fun _ => 0)))), (q39, .inr (3, [.ref a4])), (a4, .inl (cJ, 60, .inr (.inl (fun _ => 0)))), (q52, .inr (3, [.null]))] H := hP
  have hD : va_D (va_A [(h0, .inr (2, [.null, .null, .null, .null, .null, .null, .null, .null, .int 0, .int 0, .int 0, .int 0, .int 0]))] s.heap.size) [(h0, .inr (2, [.ref q5, .ref q16, .ref q27, .ref q39, .null, .null, .null, .null, .int 0, .int 0, .int 0, .int 0, .int 0])), (q5, .inr (5, [.ref b1_v1, .ref b1_v3])), (b1_v1, .inr (3, [.ref b1_v2])), (b1_v2, .inl (cJ, 60, .inr (.inl (fFil (fun _ => 0) (-1) 60)))), (q16, .inr (5, [.ref b2_v1, .ref b2_v3])), (b2_v1, .inr (3, [.ref b2_v2])), (b2_v2, .inl (cJ, 60, .inr (.inl (fFil (fun _ => 0) (-1) 60)))), (q27, .inr (3, [.ref a3])), (a3, .inl (cJ, 3, .inr (.inl (fun _ => 0)))), (q39, .inr (3, [.ref a4])), (a4, .inl (cJ, 60, .inr (.inl (fun _ => 0)))), (q52, .inr (3, [.null]))] := hD
  refine W.widen (k := 15) (n := 314) (by omega) (by omega) ?_
  refine lv_dup hx hb dX3_init_55 rfl ?_
  refine lv_bipush (v := 60) hx hb dX3_init_56 (by decide) ?_
  refine nu_callv (As := [.int 60]) (rest := [.ref q52, .ref h0]) (wr := [(h0, .inr (2, [.ref q5, .ref q16, .ref q27, .ref q39, .null, .null, .null, .null, .int 0, .int 0, .int 0, .int 0, .int 0])), (q5, .inr (5, [.ref b1_v1, .ref b1_v3])), (b1_v1, .inr (3, [.ref b1_v2])), (b1_v2, .inl (cJ, 60, .inr (.inl (fFil (fun _ => 0) (-1) 60)))), (q16, .inr (5, [.ref b2_v1, .ref b2_v3])), (b2_v1, .inr (3, [.ref b2_v2])), (b2_v2, .inl (cJ, 60, .inr (.inl (fFil (fun _ => 0) (-1) 60)))), (q27, .inr (3, [.ref a3])), (a3, .inl (cJ, 3, .inr (.inl (fun _ => 0)))), (q39, .inr (3, [.ref a4])), (a4, .inl (cJ, 60, .inr (.inl (fun _ => 0))))]) ⟨hx, hb, hml, hown, hts⟩ (c_X4_init l D cJ q52 60 (by decide)) (cwI 1 hts gX3_init_X4_init rfl rfl rfl (hts (.initialized RX4) (by decide +kernel)) (hts (.methodLink RX3 23 yX4_init) (by decide +kernel)) (hts (.instanceMethod yX4_init) (by decide +kernel)) rfl (by decide +kernel) ⟨(Nat.le_of_ble_eq_true rfl), (Nat.le_of_ble_eq_true rfl)⟩) rfl hl.1 (lv_room (Nat.le_of_ble_eq_true rfl)) dX3_init_58 ⟨(Nat.le_of_ble_eq_true rfl), (Nat.le_of_ble_eq_true rfl)⟩ hS hA rfl hK hP hD [11] [0, 1, 2, 3, 4, 5, 6, 7, 8, 9, 10] rfl rfl (by decide) rfl (by decide) (by decide) (fun u H locs hw hP hD hS => ?_)
  obtain ⟨a5, rfl⟩ := hw
  have hP : va_P D vwCl [(h0, .inr (2, [.ref q5, .ref q16, .ref q27, .ref q39, .null, .null, .null, .null, .int 0, .int 0, .int 0, .int 0, .int 0])), (q5, .inr (5, [.ref b1_v1, .ref b1_v3])), (b1_v1, .inr (3, [.ref b1_v2])), (b1_v2, .inl (cJ, 60, .inr (.inl (fFil (fun _ => 0) (-1) 60)))), (q16, .inr (5, [.ref b2_v1, .ref b2_v3])), (b2_v1, .inr (3, [.ref b2_v2])), (b2_v2, .inl (cJ, 60, .inr (.inl (fFil (fun _ => 0) (-1) 60)))), (q27, .inr (3, [.ref a3])), (a3, .inl (cJ, 3, .inr (.inl (fun _ => 0)))), (q39, .inr (3, [.ref a4])), (a4, .inl (cJ, 60, .inr (.inl (fun _ => 0)))), (q52, .inr (3, [.ref a5])), (a5, .inl (cJ, 60, .inr (.inl (fun _ => 0))))] H := hP
  have hD : va_D (va_A [(h0, .inr (2, [.null, .null, .null, .null, .null, .null, .null, .null, .int 0, .int 0, .int 0, .int 0, .int 0]))] s.heap.size) [(h0, .inr (2, [.ref q5, .ref q16, .ref q27, .ref q39, .null, .null, .null, .null, .int 0, .int 0, .int 0, .int 0, .int 0])), (q5, .inr (5, [.ref b1_v1, .ref b1_v3])), (b1_v1, .inr (3, [.ref b1_v2])), (b1_v2, .inl (cJ, 60, .inr (.inl (fFil (fun _ => 0) (-1) 60)))), (q16, .inr (5, [.ref b2_v1, .ref b2_v3])), (b2_v1, .inr (3, [.ref b2_v2])), (b2_v2, .inl (cJ, 60, .inr (.inl (fFil (fun _ => 0) (-1) 60)))), (q27, .inr (3, [.ref a3])), (a3, .inl (cJ, 3, .inr (.inl (fun _ => 0)))), (q39, .inr (3, [.ref a4])), (a4, .inl (cJ, 60, .inr (.inl (fun _ => 0)))), (q52, .inr (3, [.ref a5])), (a5, .inl (cJ, 60, .inr (.inl (fun _ => 0))))] := hD
  refine W.widen (k := 16) (n := 374) (by omega) (by omega) ?_
  refine va_putF (D := D) (ci := 2) (v := .ref q52) (ty := .object "Shingletrack$Row") (C := RX3) (T := TX3) (N := 13) hx hb hts (by decide +kernel) tyX3 tyX3_ok nmX3 hown hK hP hD hS 0 rfl rfl 4 (by decide) (hts (.fieldLink RX3 33 "Shingletrack$Platter" "mappedPlaces" "LShingletrack$Row;") (by decide +kernel)) (fun _ h9 => h9) rfl hin rfl (by decide +kernel) rfl rfl (Nat.le_of_ble_eq_true rfl) dX3_init_61 (fun H locs hP hD hS => ?_)
  have hP : va_P D vwCl [(h0, .inr (2, [.ref q5, .ref q16, .ref q27, .ref q39, .ref q52, .null, .null, .null, .int 0, .int 0, .int 0, .int 0, .int 0])), (q5, .inr (5, [.ref b1_v1, .ref b1_v3])), (b1_v1, .inr (3, [.ref b1_v2])), (b1_v2, .inl (cJ, 60, .inr (.inl (fFil (fun _ => 0) (-1) 60)))), (q16, .inr (5, [.ref b2_v1, .ref b2_v3])), (b2_v1, .inr (3, [.ref b2_v2])), (b2_v2, .inl (cJ, 60, .inr (.inl (fFil (fun _ => 0) (-1) 60)))), (q27, .inr (3, [.ref a3])), (a3, .inl (cJ, 3, .inr (.inl (fun _ => 0)))), (q39, .inr (3, [.ref a4])), (a4, .inl (cJ, 60, .inr (.inl (fun _ => 0)))), (q52, .inr (3, [.ref a5])), (a5, .inl (cJ, 60, .inr (.inl (fun _ => 0))))] H := hP
  have hD : va_D (va_A [(h0, .inr (2, [.null, .null, .null, .null, .null, .null, .null, .null, .int 0, .int 0, .int 0, .int 0, .int 0]))] s.heap.size) [(h0, .inr (2, [.ref q5, .ref q16, .ref q27, .ref q39, .ref q52, .null, .null, .null, .int 0, .int 0, .int 0, .int 0, .int 0])), (q5, .inr (5, [.ref b1_v1, .ref b1_v3])), (b1_v1, .inr (3, [.ref b1_v2])), (b1_v2, .inl (cJ, 60, .inr (.inl (fFil (fun _ => 0) (-1) 60)))), (q16, .inr (5, [.ref b2_v1, .ref b2_v3])), (b2_v1, .inr (3, [.ref b2_v2])), (b2_v2, .inl (cJ, 60, .inr (.inl (fFil (fun _ => 0) (-1) 60)))), (q27, .inr (3, [.ref a3])), (a3, .inl (cJ, 3, .inr (.inl (fun _ => 0)))), (q39, .inr (3, [.ref a4])), (a4, .inl (cJ, 60, .inr (.inl (fun _ => 0)))), (q52, .inr (3, [.ref a5])), (a5, .inl (cJ, 60, .inr (.inl (fun _ => 0))))] := hD
  refine lv_aload_n hx hb dX3_init_64 rfl (lv_at hl 0 rfl) ?_
  refine va_new (ci := 3) (fs := [.null]) (C := RX4) (T := TX4) (N := 1) hx hb hts (by decide +kernel) tyX4 tyX4_ok hown (hts (.classLink RX3 21 RX4) (by decide +kernel)) (hts (.instantiable RX4 1) (by decide +kernel)) (hts (.initialized RX4) (by decide +kernel)) hK hP hD hS hA rfl (fun j hj => by rcases (show j = 0 by omega) with rfl <;> rfl) (Nat.le_of_ble_eq_true rfl) (Nat.le_of_ble_eq_true rfl) dX3_init_65 (fun q65 H hP hD hS => ?_)
  have hP : va_P D vwCl [(h0, .inr (2, [.ref q5, .ref q16, .ref q27, .ref q39, .ref q52, .null, .null, .null, .int 0, .int 0, .int 0, .int 0, .int 0])), (q5, .inr (5, [.ref b1_v1, .ref b1_v3])), (b1_v1, .inr (3, [.ref b1_v2])), (b1_v2, .inl (cJ, 60, .inr (.inl (fFil (fun _ => 0) (-1) 60)))), (q16, .inr (5, [.ref b2_v1, .ref b2_v3])), (b2_v1, .inr (3, [.ref b2_v2])), (b2_v2, .inl (cJ, 60, .inr (.inl (fFil (fun _ => 0) (-1) 60)))), (q27, .inr (3, [.ref a3])), (a3, .inl (cJ, 3, .inr (.inl (fun _ => 0)))), (q39, .inr (3, [.ref a4])), (a4, .inl (cJ, 60, .inr (.inl (fun _ => 0)))), (q52, .inr (3, [.ref a5])), (a5, .inl (cJ, 60, .inr (.inl (fun _ => 0)))), (q65, .inr (3, [.null]))] H := hP
  have hD : va_D (va_A [(h0, .inr (2, [.null, .null, .null, .null, .null, .null, .null, .null, .int 0, .int 0, .int 0, .int 0, .int 0]))] s.heap.size) [(h0, .inr (2, [.ref q5, .ref q16, .ref q27, .ref q39, .ref q52, .null, .null, .null, .int 0, .int 0, .int 0, .int 0, .int 0])), (q5, .inr (5, [.ref b1_v1, .ref b1_v3])), (b1_v1, .inr (3, [.ref b1_v2])), (b1_v2, .inl (cJ, 60, .inr (.inl (fFil (fun _ => 0) (-1) 60)))), (q16, .inr (5, [.ref b2_v1, .ref b2_v3])), (b2_v1, .inr (3, [.ref b2_v2])), (b2_v2, .inl (cJ, 60, .inr (.inl (fFil (fun _ => 0) (-1) 60)))), (q27, .inr (3, [.ref a3])), (a3, .inl (cJ, 3, .inr (.inl (fun _ => 0)))), (q39, .inr (3, [.ref a4])), (a4, .inl (cJ, 60, .inr (.inl (fun _ => 0)))), (q52, .inr (3, [.ref a5])), (a5, .inl (cJ, 60, .inr (.inl (fun _ => 0)))), (q65, .inr (3, [.null]))] := hD
  refine W.widen (k := 17) (n := 375) (by omega) (by omega) ?_
  refine lv_dup hx hb dX3_init_68 rfl ?_
  refine lv_bipush (v := 60) hx hb dX3_init_69 (by decide) ?_
  refine nu_callv (As := [.int 60]) (rest := [.ref q65, .ref h0]) (wr := [(h0, .inr (2, [.ref q5, .ref q16, .ref q27, .ref q39, .ref q52, .null, .null, .null, .int 0, .int 0, .int 0, .int 0, .int 0])), (q5, .inr (5, [.ref b1_v1, .ref b1_v3])), (b1_v1, .inr (3, [.ref b1_v2])), (b1_v2, .inl (cJ, 60, .inr (.inl (fFil (fun _ => 0) (-1) 60)))), (q16, .inr (5, [.ref b2_v1, .ref b2_v3])), (b2_v1, .inr (3, [.ref b2_v2])), (b2_v2, .inl (cJ, 60, .inr (.inl (fFil (fun _ => 0) (-1) 60)))), (q27, .inr (3, [.ref a3])), (a3, .inl (cJ, 3, .inr (.inl (fun _ => 0)))), (q39, .inr (3, [.ref a4])), (a4, .inl (cJ, 60, .inr (.inl (fun _ => 0)))), (q52, .inr (3, [.ref a5])), (a5, .inl (cJ, 60, .inr (.inl (fun _ => 0))))]) ⟨hx, hb, hml, hown, hts⟩ (c_X4_init l D cJ q65 60 (by decide)) (cwI 1 hts gX3_init_X4_init rfl rfl rfl (hts (.initialized RX4) (by decide +kernel)) (hts (.methodLink RX3 23 yX4_init) (by decide +kernel)) (hts (.instanceMethod yX4_init) (by decide +kernel)) rfl (by decide +kernel) ⟨(Nat.le_of_ble_eq_true rfl), (Nat.le_of_ble_eq_true rfl)⟩) rfl hl.1 (lv_room (Nat.le_of_ble_eq_true rfl)) dX3_init_71 ⟨(Nat.le_of_ble_eq_true rfl), (Nat.le_of_ble_eq_true rfl)⟩ hS hA rfl hK hP hD [13] [0, 1, 2, 3, 4, 5, 6, 7, 8, 9, 10, 11, 12] rfl rfl (by decide) rfl (by decide) (by decide) (fun u H locs hw hP hD hS => ?_)
  obtain ⟨a6, rfl⟩ := hw
  have hP : va_P D vwCl [(h0, .inr (2, [.ref q5, .ref q16, .ref q27, .ref q39, .ref q52, .null, .null, .null, .int 0, .int 0, .int 0, .int 0, .int 0])), (q5, .inr (5, [.ref b1_v1, .ref b1_v3])), (b1_v1, .inr (3, [.ref b1_v2])), (b1_v2, .inl (cJ, 60, .inr (.inl (fFil (fun _ => 0) (-1) 60)))), (q16, .inr (5, [.ref b2_v1, .ref b2_v3])), (b2_v1, .inr (3, [.ref b2_v2])), (b2_v2, .inl (cJ, 60, .inr (.inl (fFil (fun _ => 0) (-1) 60)))), (q27, .inr (3, [.ref a3])), (a3, .inl (cJ, 3, .inr (.inl (fun _ => 0)))), (q39, .inr (3, [.ref a4])), (a4, .inl (cJ, 60, .inr (.inl (fun _ => 0)))), (q52, .inr (3, [.ref a5])), (a5, .inl (cJ, 60, .inr (.inl (fun _ => 0)))), (q65, .inr (3, [.ref a6])), (a6, .inl (cJ, 60, .inr (.inl (fun _ => 0))))] H := hP
  have hD : va_D (va_A [(h0, .inr (2, [.null, .null, .null, .null, .null, .null, .null, .null, .int 0, .int 0, .int 0, .int 0, .int 0]))] s.heap.size) [(h0, .inr (2, [.ref q5, .ref q16, .ref q27, .ref q39, .ref q52, .null, .null, .null, .int 0, .int 0, .int 0, .int 0, .int 0])), (q5, .inr (5, [.ref b1_v1, .ref b1_v3])), (b1_v1, .inr (3, [.ref b1_v2])), (b1_v2, .inl (cJ, 60, .inr (.inl (fFil (fun _ => 0) (-1) 60)))), (q16, .inr (5, [.ref b2_v1, .ref b2_v3])), (b2_v1, .inr (3, [.ref b2_v2])), (b2_v2, .inl (cJ, 60, .inr (.inl (fFil (fun _ => 0) (-1) 60)))), (q27, .inr (3, [.ref a3])), (a3, .inl (cJ, 3, .inr (.inl (fun _ => 0)))), (q39, .inr (3, [.ref a4])), (a4, .inl (cJ, 60, .inr (.inl (fun _ => 0)))), (q52, .inr (3, [.ref a5])), (a5, .inl (cJ, 60, .inr (.inl (fun _ => 0)))), (q65, .inr (3, [.ref a6])), (a6, .inl (cJ, 60, .inr (.inl (fun _ => 0))))] := hD
  refine W.widen (k := 18) (n := 435) (by omega) (by omega) ?_
  refine va_putF (D := D) (ci := 2) (v := .ref q65) (ty := .object "Shingletrack$Row") (C := RX3) (T := TX3) (N := 13) hx hb hts (by decide +kernel) tyX3 tyX3_ok nmX3 hown hK hP hD hS 0 rfl rfl 5 (by decide) (hts (.fieldLink RX3 36 "Shingletrack$Platter" "lostSectors" "LShingletrack$Row;") (by decide +kernel)) (fun _ h9 => h9) rfl hin rfl (by decide +kernel) rfl rfl (Nat.le_of_ble_eq_true rfl) dX3_init_74 (fun H locs hP hD hS => ?_)
  have hP : va_P D vwCl [(h0, .inr (2, [.ref q5, .ref q16, .ref q27, .ref q39, .ref q52, .ref q65, .null, .null, .int 0, .int 0, .int 0, .int 0, .int 0])), (q5, .inr (5, [.ref b1_v1, .ref b1_v3])), (b1_v1, .inr (3, [.ref b1_v2])), (b1_v2, .inl (cJ, 60, .inr (.inl (fFil (fun _ => 0) (-1) 60)))), (q16, .inr (5, [.ref b2_v1, .ref b2_v3])), (b2_v1, .inr (3, [.ref b2_v2])), (b2_v2, .inl (cJ, 60, .inr (.inl (fFil (fun _ => 0) (-1) 60)))), (q27, .inr (3, [.ref a3])), (a3, .inl (cJ, 3, .inr (.inl (fun _ => 0)))), (q39, .inr (3, [.ref a4])), (a4, .inl (cJ, 60, .inr (.inl (fun _ => 0)))), (q52, .inr (3, [.ref a5])), (a5, .inl (cJ, 60, .inr (.inl (fun _ => 0)))), (q65, .inr (3, [.ref a6])), (a6, .inl (cJ, 60, .inr (.inl (fun _ => 0))))] H := hP
  have hD : va_D (va_A [(h0, .inr (2, [.null, .null, .null, .null, .null, .null, .null, .null, .int 0, .int 0, .int 0, .int 0, .int 0]))] s.heap.size) [(h0, .inr (2, [.ref q5, .ref q16, .ref q27, .ref q39, .ref q52, .ref q65, .null, .null, .int 0, .int 0, .int 0, .int 0, .int 0])), (q5, .inr (5, [.ref b1_v1, .ref b1_v3])), (b1_v1, .inr (3, [.ref b1_v2])), (b1_v2, .inl (cJ, 60, .inr (.inl (fFil (fun _ => 0) (-1) 60)))), (q16, .inr (5, [.ref b2_v1, .ref b2_v3])), (b2_v1, .inr (3, [.ref b2_v2])), (b2_v2, .inl (cJ, 60, .inr (.inl (fFil (fun _ => 0) (-1) 60)))), (q27, .inr (3, [.ref a3])), (a3, .inl (cJ, 3, .inr (.inl (fun _ => 0)))), (q39, .inr (3, [.ref a4])), (a4, .inl (cJ, 60, .inr (.inl (fun _ => 0)))), (q52, .inr (3, [.ref a5])), (a5, .inl (cJ, 60, .inr (.inl (fun _ => 0)))), (q65, .inr (3, [.ref a6])), (a6, .inl (cJ, 60, .inr (.inl (fun _ => 0))))] := hD
  refine lv_aload_n hx hb dX3_init_77 rfl (lv_at hl 0 rfl) ?_
  refine va_new (ci := 3) (fs := [.null]) (C := RX4) (T := TX4) (N := 1) hx hb hts (by decide +kernel) tyX4 tyX4_ok hown (hts (.classLink RX3 21 RX4) (by decide +kernel)) (hts (.instantiable RX4 1) (by decide +kernel)) (hts (.initialized RX4) (by decide +kernel)) hK hP hD hS hA rfl (fun j hj => by rcases (show j = 0 by omega) with rfl <;> rfl) (Nat.le_of_ble_eq_true rfl) (Nat.le_of_ble_eq_true rfl) dX3_init_78 (fun q78 H hP hD hS => ?_)
  have hP : va_P D vwCl [(h0, .inr (2, [.ref q5, .ref q16, .ref q27, .ref q39, .ref q52, .ref q65, .null, .null, .int 0, .int 0, .int 0, .int 0, .int 0])), (q5, .inr (5, [.ref b1_v1, .ref b1_v3])), (b1_v1, .inr (3, [.ref b1_v2])), (b1_v2, .inl (cJ, 60, .inr (.inl (fFil (fun _ => 0) (-1) 60)))), (q16, .inr (5, [.ref b2_v1, .ref b2_v3])), (b2_v1, .inr (3, [.ref b2_v2])), (b2_v2, .inl (cJ, 60, .inr (.inl (fFil (fun _ => 0) (-1) 60)))), (q27, .inr (3, [.ref a3])), (a3, .inl (cJ, 3, .inr (.inl (fun _ => 0)))), (q39, .inr (3, [.ref a4])), (a4, .inl (cJ, 60, .inr (.inl (fun _ => 0)))), (q52, .inr (3, [.ref a5])), (a5, .inl (cJ, 60, .inr (.inl (fun _ => 0)))), (q65, .inr (3, [.ref a6])), (a6, .inl (cJ, 60, .inr (.inl (fun _ => 0)))), (q78, .inr (3, [.null]))] H := hP
  have hD : va_D (va_A [(h0, .inr (2, [.null, .null, .null, .null, .null, .null, .null, .null, .int 0, .int 0, .int 0, .int 0, .int 0]))] s.heap.size) [(h0, .inr (2, [.ref q5, .ref q16, .ref q27, .ref q39, .ref q52, .ref q65, .null, .null, .int 0, .int 0, .int 0, .int 0, .int 0])), (q5, .inr (5, [.ref b1_v1, .ref b1_v3])), (b1_v1, .inr (3, [.ref b1_v2])), (b1_v2, .inl (cJ, 60, .inr (.inl (fFil (fun _ => 0) (-1) 60)))), (q16, .inr (5, [.ref b2_v1, .ref b2_v3])), (b2_v1, .inr (3, [.ref b2_v2])), (b2_v2, .inl (cJ, 60, .inr (.inl (fFil (fun _ => 0) (-1) 60)))), (q27, .inr (3, [.ref a3])), (a3, .inl (cJ, 3, .inr (.inl (fun _ => 0)))), (q39, .inr (3, [.ref a4])), (a4, .inl (cJ, 60, .inr (.inl (fun _ => 0)))), (q52, .inr (3, [.ref a5])), (a5, .inl (cJ, 60, .inr (.inl (fun _ => 0)))), (q65, .inr (3, [.ref a6])), (a6, .inl (cJ, 60, .inr (.inl (fun _ => 0)))), (q78, .inr (3, [.null]))] := hD
  refine W.widen (k := 19) (n := 436) (by omega) (by omega) ?_
  refine lv_dup hx hb dX3_init_81 rfl ?_
  refine lv_bipush (v := 60) hx hb dX3_init_82 (by decide) ?_
  refine nu_callv (As := [.int 60]) (rest := [.ref q78, .ref h0]) (wr := [(h0, .inr (2, [.ref q5, .ref q16, .ref q27, .ref q39, .ref q52, .ref q65, .null, .null, .int 0, .int 0, .int 0, .int 0, .int 0])), (q5, .inr (5, [.ref b1_v1, .ref b1_v3])), (b1_v1, .inr (3, [.ref b1_v2])), (b1_v2, .inl (cJ, 60, .inr (.inl (fFil (fun _ => 0) (-1) 60)))), (q16, .inr (5, [.ref b2_v1, .ref b2_v3])), (b2_v1, .inr (3, [.ref b2_v2])), (b2_v2, .inl (cJ, 60, .inr (.inl (fFil (fun _ => 0) (-1) 60)))), (q27, .inr (3, [.ref a3])), (a3, .inl (cJ, 3, .inr (.inl (fun _ => 0)))), (q39, .inr (3, [.ref a4])), (a4, .inl (cJ, 60, .inr (.inl (fun _ => 0)))), (q52, .inr (3, [.ref a5])), (a5, .inl (cJ, 60, .inr (.inl (fun _ => 0)))), (q65, .inr (3, [.ref a6])), (a6, .inl (cJ, 60, .inr (.inl (fun _ => 0))))]) ⟨hx, hb, hml, hown, hts⟩ (c_X4_init l D cJ q78 60 (by decide)) (cwI 1 hts gX3_init_X4_init rfl rfl rfl (hts (.initialized RX4) (by decide +kernel)) (hts (.methodLink RX3 23 yX4_init) (by decide +kernel)) (hts (.instanceMethod yX4_init) (by decide +kernel)) rfl (by decide +kernel) ⟨(Nat.le_of_ble_eq_true rfl), (Nat.le_of_ble_eq_true rfl)⟩) rfl hl.1 (lv_room (Nat.le_of_ble_eq_true rfl)) dX3_init_84 ⟨(Nat.le_of_ble_eq_true rfl), (Nat.le_of_ble_eq_true rfl)⟩ hS hA rfl hK hP hD [15] [0, 1, 2, 3, 4, 5, 6, 7, 8, 9, 10, 11, 12, 13, 14] rfl rfl (by decide) rfl (by decide) (by decide) (fun u H locs hw hP hD hS => ?_)
  obtain ⟨a7, rfl⟩ := hw
  have hP : va_P D vwCl [(h0, .inr (2, [.ref q5, .ref q16, .ref q27, .ref q39, .ref q52, .ref q65, .null, .null, .int 0, .int 0, .int 0, .int 0, .int 0])), (q5, .inr (5, [.ref b1_v1, .ref b1_v3])), (b1_v1, .inr (3, [.ref b1_v2])), (b1_v2, .inl (cJ, 60, .inr (.inl (fFil (fun _ => 0) (-1) 60)))), (q16, .inr (5, [.ref b2_v1, .ref b2_v3])), (b2_v1, .inr (3, [.ref b2_v2])), (b2_v2, .inl (cJ, 60, .inr (.inl (fFil (fun _ => 0) (-1) 60)))), (q27, .inr (3, [.ref a3])), (a3, .inl (cJ, 3, .inr (.inl (fun _ => 0)))), (q39, .inr (3, [.ref a4])), (a4, .inl (cJ, 60, .inr (.inl (fun _ => 0)))), (q52, .inr (3, [.ref a5])), (a5, .inl (cJ, 60, .inr (.inl (fun _ => 0)))), (q65, .inr (3, [.ref a6])), (a6, .inl (cJ, 60, .inr (.inl (fun _ => 0)))), (q78, .inr (3, [.ref a7])), (a7, .inl (cJ, 60, .inr (.inl (fun _ => 0))))] H := hP
  have hD : va_D (va_A [(h0, .inr (2, [.null, .null, .null, .null, .null, .null, .null, .null, .int 0, .int 0, .int 0, .int 0, .int 0]))] s.heap.size) [(h0, .inr (2, [.ref q5, .ref q16, .ref q27, .ref q39, .ref q52, .ref q65, .null, .null, .int 0, .int 0, .int 0, .int 0, .int 0])), (q5, .inr (5, [.ref b1_v1, .ref b1_v3])), (b1_v1, .inr (3, [.ref b1_v2])), (b1_v2, .inl (cJ, 60, .inr (.inl (fFil (fun _ => 0) (-1) 60)))), (q16, .inr (5, [.ref b2_v1, .ref b2_v3])), (b2_v1, .inr (3, [.ref b2_v2])), (b2_v2, .inl (cJ, 60, .inr (.inl (fFil (fun _ => 0) (-1) 60)))), (q27, .inr (3, [.ref a3])), (a3, .inl (cJ, 3, .inr (.inl (fun _ => 0)))), (q39, .inr (3, [.ref a4])), (a4, .inl (cJ, 60, .inr (.inl (fun _ => 0)))), (q52, .inr (3, [.ref a5])), (a5, .inl (cJ, 60, .inr (.inl (fun _ => 0)))), (q65, .inr (3, [.ref a6])), (a6, .inl (cJ, 60, .inr (.inl (fun _ => 0)))), (q78, .inr (3, [.ref a7])), (a7, .inl (cJ, 60, .inr (.inl (fun _ => 0))))] := hD
  refine W.widen (k := 20) (n := 496) (by omega) (by omega) ?_
  refine va_putF (D := D) (ci := 2) (v := .ref q78) (ty := .object "Shingletrack$Row") (C := RX3) (T := TX3) (N := 13) hx hb hts (by decide +kernel) tyX3 tyX3_ok nmX3 hown hK hP hD hS 0 rfl rfl 6 (by decide) (hts (.fieldLink RX3 39 "Shingletrack$Platter" "lastSent" "LShingletrack$Row;") (by decide +kernel)) (fun _ h9 => h9) rfl hin rfl (by decide +kernel) rfl rfl (Nat.le_of_ble_eq_true rfl) dX3_init_87 (fun H locs hP hD hS => ?_)
  have hP : va_P D vwCl [(h0, .inr (2, [.ref q5, .ref q16, .ref q27, .ref q39, .ref q52, .ref q65, .ref q78, .null, .int 0, .int 0, .int 0, .int 0, .int 0])), (q5, .inr (5, [.ref b1_v1, .ref b1_v3])), (b1_v1, .inr (3, [.ref b1_v2])), (b1_v2, .inl (cJ, 60, .inr (.inl (fFil (fun _ => 0) (-1) 60)))), (q16, .inr (5, [.ref b2_v1, .ref b2_v3])), (b2_v1, .inr (3, [.ref b2_v2])), (b2_v2, .inl (cJ, 60, .inr (.inl (fFil (fun _ => 0) (-1) 60)))), (q27, .inr (3, [.ref a3])), (a3, .inl (cJ, 3, .inr (.inl (fun _ => 0)))), (q39, .inr (3, [.ref a4])), (a4, .inl (cJ, 60, .inr (.inl (fun _ => 0)))), (q52, .inr (3, [.ref a5])), (a5, .inl (cJ, 60, .inr (.inl (fun _ => 0)))), (q65, .inr (3, [.ref a6])), (a6, .inl (cJ, 60, .inr (.inl (fun _ => 0)))), (q78, .inr (3, [.ref a7])), (a7, .inl (cJ, 60, .inr (.inl (fun _ => 0))))] H := hP
  have hD : va_D (va_A [(h0, .inr (2, [.null, .null, .null, .null, .null, .null, .null, .null, .int 0, .int 0, .int 0, .int 0, .int 0]))] s.heap.size) [(h0, .inr (2, [.ref q5, .ref q16, .ref q27, .ref q39, .ref q52, .ref q65, .ref q78, .null, .int 0, .int 0, .int 0, .int 0, .int 0])), (q5, .inr (5, [.ref b1_v1, .ref b1_v3])), (b1_v1, .inr (3, [.ref b1_v2])), (b1_v2, .inl (cJ, 60, .inr (.inl (fFil (fun _ => 0) (-1) 60)))), (q16, .inr (5, [.ref b2_v1, .ref b2_v3])), (b2_v1, .inr (3, [.ref b2_v2])), (b2_v2, .inl (cJ, 60, .inr (.inl (fFil (fun _ => 0) (-1) 60)))), (q27, .inr (3, [.ref a3])), (a3, .inl (cJ, 3, .inr (.inl (fun _ => 0)))), (q39, .inr (3, [.ref a4])), (a4, .inl (cJ, 60, .inr (.inl (fun _ => 0)))), (q52, .inr (3, [.ref a5])), (a5, .inl (cJ, 60, .inr (.inl (fun _ => 0)))), (q65, .inr (3, [.ref a6])), (a6, .inl (cJ, 60, .inr (.inl (fun _ => 0)))), (q78, .inr (3, [.ref a7])), (a7, .inl (cJ, 60, .inr (.inl (fun _ => 0))))] := hD
  refine lv_aload_n hx hb dX3_init_90 rfl (lv_at hl 0 rfl) ?_
  refine va_new (ci := 3) (fs := [.null]) (C := RX4) (T := TX4) (N := 1) hx hb hts (by decide +kernel) tyX4 tyX4_ok hown (hts (.classLink RX3 21 RX4) (by decide +kernel)) (hts (.instantiable RX4 1) (by decide +kernel)) (hts (.initialized RX4) (by decide +kernel)) hK hP hD hS hA rfl (fun j hj => by rcases (show j = 0 by omega) with rfl <;> rfl) (Nat.le_of_ble_eq_true rfl) (Nat.le_of_ble_eq_true rfl) dX3_init_91 (fun q91 H hP hD hS => ?_)
  have hP : va_P D vwCl [(h0, .inr (2, [.ref q5, .ref q16, .ref q27, .ref q39, .ref q52, .ref q65, .ref q78, .null, .int 0, .int 0, .int 0, .int 0, .int 0])), (q5, .inr (5, [.ref b1_v1, .ref b1_v3])), (b1_v1, .inr (3, [.ref b1_v2])), (b1_v2, .inl (cJ, 60, .inr (.inl (fFil (fun _ => 0) (-1) 60)))), (q16, .inr (5, [.ref b2_v1, .ref b2_v3])), (b2_v1, .inr (3, [.ref b2_v2])), (b2_v2, .inl (cJ, 60, .inr (.inl (fFil (fun _ => 0) (-1) 60)))), (q27, .inr (3, [.ref a3])), (a3, .inl (cJ, 3, .inr (.inl (fun _ => 0)))), (q39, .inr (3, [.ref a4])), (a4, .inl (cJ, 60, .inr (.inl (fun _ => 0)))), (q52, .inr (3, [.ref a5])), (a5, .inl (cJ, 60, .inr (.inl (fun _ => 0)))), (q65, .inr (3, [.ref a6])), (a6, .inl (cJ, 60, .inr (.inl (fun _ => 0)))), (q78, .inr (3, [.ref a7])), (a7, .inl (cJ, 60, .inr (.inl (fun _ => 0)))), (q91, .inr (3, [.null]))] H := hP
  have hD : va_D (va_A [(h0, .inr (2, [.null, .null, .null, .null, .null, .null, .null, .null, .int 0, .int 0, .int 0, .int 0, .int 0]))] s.heap.size) [(h0, .inr (2, [.ref q5, .ref q16, .ref q27, .ref q39, .ref q52, .ref q65, .ref q78, .null, .int 0, .int 0, .int 0, .int 0, .int 0])), (q5, .inr (5, [.ref b1_v1, .ref b1_v3])), (b1_v1, .inr (3, [.ref b1_v2])), (b1_v2, .inl (cJ, 60, .inr (.inl (fFil (fun _ => 0) (-1) 60)))), (q16, .inr (5, [.ref b2_v1, .ref b2_v3])), (b2_v1, .inr (3, [.ref b2_v2])), (b2_v2, .inl (cJ, 60, .inr (.inl (fFil (fun _ => 0) (-1) 60)))), (q27, .inr (3, [.ref a3])), (a3, .inl (cJ, 3, .inr (.inl (fun _ => 0)))), (q39, .inr (3, [.ref a4])), (a4, .inl (cJ, 60, .inr (.inl (fun _ => 0)))), (q52, .inr (3, [.ref a5])), (a5, .inl (cJ, 60, .inr (.inl (fun _ => 0)))), (q65, .inr (3, [.ref a6])), (a6, .inl (cJ, 60, .inr (.inl (fun _ => 0)))), (q78, .inr (3, [.ref a7])), (a7, .inl (cJ, 60, .inr (.inl (fun _ => 0)))), (q91, .inr (3, [.null]))] := hD
  refine W.widen (k := 21) (n := 497) (by omega) (by omega) ?_
  refine lv_dup hx hb dX3_init_94 rfl ?_
  refine lv_bipush (v := 60) hx hb dX3_init_95 (by decide) ?_
  refine nu_callv (As := [.int 60]) (rest := [.ref q91, .ref h0]) (wr := [(h0, .inr (2, [.ref q5, .ref q16, .ref q27, .ref q39, .ref q52, .ref q65, .ref q78, .null, .int 0, .int 0, .int 0, .int 0, .int 0])), (q5, .inr (5, [.ref b1_v1, .ref b1_v3])), (b1_v1, .inr (3, [.ref b1_v2])), (b1_v2, .inl (cJ, 60, .inr (.inl (fFil (fun _ => 0) (-1) 60)))), (q16, .inr (5, [.ref b2_v1, .ref b2_v3])), (b2_v1, .inr (3, [.ref b2_v2])), (b2_v2, .inl (cJ, 60, .inr (.inl (fFil (fun _ => 0) (-1) 60)))), (q27, .inr (3, [.ref a3])), (a3, .inl (cJ, 3, .inr (.inl (fun _ => 0)))), (q39, .inr (3, [.ref a4])), (a4, .inl (cJ, 60, .inr (.inl (fun _ => 0)))), (q52, .inr (3, [.ref a5])), (a5, .inl (cJ, 60, .inr (.inl (fun _ => 0)))), (q65, .inr (3, [.ref a6])), (a6, .inl (cJ, 60, .inr (.inl (fun _ => 0)))), (q78, .inr (3, [.ref a7])), (a7, .inl (cJ, 60, .inr (.inl (fun _ => 0))))]) ⟨hx, hb, hml, hown, hts⟩ (c_X4_init l D cJ q91 60 (by decide)) (cwI 1 hts gX3_init_X4_init rfl rfl rfl (hts (.initialized RX4) (by decide +kernel)) (hts (.methodLink RX3 23 yX4_init) (by decide +kernel)) (hts (.instanceMethod yX4_init) (by decide +kernel)) rfl (by decide +kernel) ⟨(Nat.le_of_ble_eq_true rfl), (Nat.le_of_ble_eq_true rfl)⟩) rfl hl.1 (lv_room (Nat.le_of_ble_eq_true rfl)) dX3_init_97 ⟨(Nat.le_of_ble_eq_true rfl), (Nat.le_of_ble_eq_true rfl)⟩ hS hA rfl hK hP hD [17] [0, 1, 2, 3, 4, 5, 6, 7, 8, 9, 10, 11, 12, 13, 14, 15, 16] rfl rfl (by decide) rfl (by decide) (by decide) (fun u H locs hw hP hD hS => ?_)
  obtain ⟨a8, rfl⟩ := hw
  have hP : va_P D vwCl [(h0, .inr (2, [.ref q5, .ref q16, .ref q27, .ref q39, .ref q52, .ref q65, .ref q78, .null, .int 0, .int 0, .int 0, .int 0, .int 0])), (q5, .inr (5, [.ref b1_v1, .ref b1_v3])), (b1_v1, .inr (3, [.ref b1_v2])), (b1_v2, .inl (cJ, 60, .inr (.inl (fFil (fun _ => 0) (-1) 60)))), (q16, .inr (5, [.ref b2_v1, .ref b2_v3])), (b2_v1, .inr (3, [.ref b2_v2])), (b2_v2, .inl (cJ, 60, .inr (.inl (fFil (fun _ => 0) (-1) 60)))), (q27, .inr (3, [.ref a3])), (a3, .inl (cJ, 3, .inr (.inl (fun _ => 0)))), (q39, .inr (3, [.ref a4])), (a4, .inl (cJ, 60, .inr (.inl (fun _ => 0)))), (q52, .inr (3, [.ref a5])), (a5, .inl (cJ, 60, .inr (.inl (fun _ => 0)))), (q65, .inr (3, [.ref a6])), (a6, .inl (cJ, 60, .inr (.inl (fun _ => 0)))), (q78, .inr (3, [.ref a7])), (a7, .inl (cJ, 60, .inr (.inl (fun _ => 0)))), (q91, .inr (3, [.ref a8])), (a8, .inl (cJ, 60, .inr (.inl (fun _ => 0))))] H := hP
  have hD : va_D (va_A [(h0, .inr (2, [.null, .null, .null, .null, .null, .null, .null, .null, .int 0, .int 0, .int 0, .int 0, .int 0]))] s.heap.size) [(h0, .inr (2, [.ref q5, .ref q16, .ref q27, .ref q39, .ref q52, .ref q65, .ref q78, .null, .int 0, .int 0, .int 0, .int 0, .int 0])), (q5, .inr (5, [.ref b1_v1, .ref b1_v3])), (b1_v1, .inr (3, [.ref b1_v2])), (b1_v2, .inl (cJ, 60, .inr (.inl (fFil (fun _ => 0) (-1) 60)))), (q16, .inr (5, [.ref b2_v1, .ref b2_v3])), (b2_v1, .inr (3, [.ref b2_v2])), (b2_v2, .inl (cJ, 60, .inr (.inl (fFil (fun _ => 0) (-1) 60)))), (q27, .inr (3, [.ref a3])), (a3, .inl (cJ, 3, .inr (.inl (fun _ => 0)))), (q39, .inr (3, [.ref a4])), (a4, .inl (cJ, 60, .inr (.inl (fun _ => 0)))), (q52, .inr (3, [.ref a5])), (a5, .inl (cJ, 60, .inr (.inl (fun _ => 0)))), (q65, .inr (3, [.ref a6])), (a6, .inl (cJ, 60, .inr (.inl (fun _ => 0)))), (q78, .inr (3, [.ref a7])), (a7, .inl (cJ, 60, .inr (.inl (fun _ => 0)))), (q91, .inr (3, [.ref a8])), (a8, .inl (cJ, 60, .inr (.inl (fun _ => 0))))] := hD
  refine W.widen (k := 22) (n := 557) (by omega) (by omega) ?_
  refine va_putF (D := D) (ci := 2) (v := .ref q91) (ty := .object "Shingletrack$Row") (C := RX3) (T := TX3) (N := 13) hx hb hts (by decide +kernel) tyX3 tyX3_ok nmX3 hown hK hP hD hS 0 rfl rfl 7 (by decide) (hts (.fieldLink RX3 42 "Shingletrack$Platter" "harmedSectors" "LShingletrack$Row;") (by decide +kernel)) (fun _ h9 => h9) rfl hin rfl (by decide +kernel) rfl rfl (Nat.le_of_ble_eq_true rfl) dX3_init_100 (fun H locs hP hD hS => ?_)
  have hP : va_P D vwCl [(h0, .inr (2, [.ref q5, .ref q16, .ref q27, .ref q39, .ref q52, .ref q65, .ref q78, .ref q91, .int 0, .int 0, .int 0, .int 0, .int 0])), (q5, .inr (5, [.ref b1_v1, .ref b1_v3])), (b1_v1, .inr (3, [.ref b1_v2])), (b1_v2, .inl (cJ, 60, .inr (.inl (fFil (fun _ => 0) (-1) 60)))), (q16, .inr (5, [.ref b2_v1, .ref b2_v3])), (b2_v1, .inr (3, [.ref b2_v2])), (b2_v2, .inl (cJ, 60, .inr (.inl (fFil (fun _ => 0) (-1) 60)))), (q27, .inr (3, [.ref a3])), (a3, .inl (cJ, 3, .inr (.inl (fun _ => 0)))), (q39, .inr (3, [.ref a4])), (a4, .inl (cJ, 60, .inr (.inl (fun _ => 0)))), (q52, .inr (3, [.ref a5])), (a5, .inl (cJ, 60, .inr (.inl (fun _ => 0)))), (q65, .inr (3, [.ref a6])), (a6, .inl (cJ, 60, .inr (.inl (fun _ => 0)))), (q78, .inr (3, [.ref a7])), (a7, .inl (cJ, 60, .inr (.inl (fun _ => 0)))), (q91, .inr (3, [.ref a8])), (a8, .inl (cJ, 60, .inr (.inl (fun _ => 0))))] H := hP
  have hD : va_D (va_A [(h0, .inr (2, [.null, .null, .null, .null, .null, .null, .null, .null, .int 0, .int 0, .int 0, .int 0, .int 0]))] s.heap.size) [(h0, .inr (2, [.ref q5, .ref q16, .ref q27, .ref q39, .ref q52, .ref q65, .ref q78, .ref q91, .int 0, .int 0, .int 0, .int 0, .int 0])), (q5, .inr (5, [.ref b1_v1, .ref b1_v3])), (b1_v1, .inr (3, [.ref b1_v2])), (b1_v2, .inl (cJ, 60, .inr (.inl (fFil (fun _ => 0) (-1) 60)))), (q16, .inr (5, [.ref b2_v1, .ref b2_v3])), (b2_v1, .inr (3, [.ref b2_v2])), (b2_v2, .inl (cJ, 60, .inr (.inl (fFil (fun _ => 0) (-1) 60)))), (q27, .inr (3, [.ref a3])), (a3, .inl (cJ, 3, .inr (.inl (fun _ => 0)))), (q39, .inr (3, [.ref a4])), (a4, .inl (cJ, 60, .inr (.inl (fun _ => 0)))), (q52, .inr (3, [.ref a5])), (a5, .inl (cJ, 60, .inr (.inl (fun _ => 0)))), (q65, .inr (3, [.ref a6])), (a6, .inl (cJ, 60, .inr (.inl (fun _ => 0)))), (q78, .inr (3, [.ref a7])), (a7, .inl (cJ, 60, .inr (.inl (fun _ => 0)))), (q91, .inr (3, [.ref a8])), (a8, .inl (cJ, 60, .inr (.inl (fun _ => 0))))] := hD
  refine lv_aload_n hx hb dX3_init_103 rfl (lv_at hl 0 rfl) ?_
  refine lv_iconst (v := 0) hx hb dX3_init_104 (by decide) ?_
  refine va_put (D := D) (ci := 2) (v := .int 0) (ty := .boolean) (C := RX3) (T := TX3) (N := 13) hx hb hts (by decide +kernel) tyX3 tyX3_ok nmX3 hown hK hP hD hS 0 rfl rfl 8 (by decide) (hts (.fieldLink RX3 45 "Shingletrack$Platter" "shakes" "Z") (by decide +kernel)) (fun _ h9 => h9) rfl (by decide +kernel) rfl rfl (Nat.le_of_ble_eq_true rfl) dX3_init_105 (fun H locs hP hD hS => ?_)
  have hP : va_P D vwCl [(h0, .inr (2, [.ref q5, .ref q16, .ref q27, .ref q39, .ref q52, .ref q65, .ref q78, .ref q91, .int 0, .int 0, .int 0, .int 0, .int 0])), (q5, .inr (5, [.ref b1_v1, .ref b1_v3])), (b1_v1, .inr (3, [.ref b1_v2])), (b1_v2, .inl (cJ, 60, .inr (.inl (fFil (fun _ => 0) (-1) 60)))), (q16, .inr (5, [.ref b2_v1, .ref b2_v3])), (b2_v1, .inr (3, [.ref b2_v2])), (b2_v2, .inl (cJ, 60, .inr (.inl (fFil (fun _ => 0) (-1) 60)))), (q27, .inr (3, [.ref a3])), (a3, .inl (cJ, 3, .inr (.inl (fun _ => 0)))), (q39, .inr (3, [.ref a4])), (a4, .inl (cJ, 60, .inr (.inl (fun _ => 0)))), (q52, .inr (3, [.ref a5])), (a5, .inl (cJ, 60, .inr (.inl (fun _ => 0)))), (q65, .inr (3, [.ref a6])), (a6, .inl (cJ, 60, .inr (.inl (fun _ => 0)))), (q78, .inr (3, [.ref a7])), (a7, .inl (cJ, 60, .inr (.inl (fun _ => 0)))), (q91, .inr (3, [.ref a8])), (a8, .inl (cJ, 60, .inr (.inl (fun _ => 0))))] H := hP
  have hD : va_D (va_A [(h0, .inr (2, [.null, .null, .null, .null, .null, .null, .null, .null, .int 0, .int 0, .int 0, .int 0, .int 0]))] s.heap.size) [(h0, .inr (2, [.ref q5, .ref q16, .ref q27, .ref q39, .ref q52, .ref q65, .ref q78, .ref q91, .int 0, .int 0, .int 0, .int 0, .int 0])), (q5, .inr (5, [.ref b1_v1, .ref b1_v3])), (b1_v1, .inr (3, [.ref b1_v2])), (b1_v2, .inl (cJ, 60, .inr (.inl (fFil (fun _ => 0) (-1) 60)))), (q16, .inr (5, [.ref b2_v1, .ref b2_v3])), (b2_v1, .inr (3, [.ref b2_v2])), (b2_v2, .inl (cJ, 60, .inr (.inl (fFil (fun _ => 0) (-1) 60)))), (q27, .inr (3, [.ref a3])), (a3, .inl (cJ, 3, .inr (.inl (fun _ => 0)))), (q39, .inr (3, [.ref a4])), (a4, .inl (cJ, 60, .inr (.inl (fun _ => 0)))), (q52, .inr (3, [.ref a5])), (a5, .inl (cJ, 60, .inr (.inl (fun _ => 0)))), (q65, .inr (3, [.ref a6])), (a6, .inl (cJ, 60, .inr (.inl (fun _ => 0)))), (q78, .inr (3, [.ref a7])), (a7, .inl (cJ, 60, .inr (.inl (fun _ => 0)))), (q91, .inr (3, [.ref a8])), (a8, .inl (cJ, 60, .inr (.inl (fun _ => 0))))] := hD
  refine lv_aload_n hx hb dX3_init_108 rfl (lv_at hl 0 rfl) ?_
  refine lv_iconst (v := 0) hx hb dX3_init_109 (by decide) ?_
  refine va_put (D := D) (ci := 2) (v := .int 0) (ty := .int) (C := RX3) (T := TX3) (N := 13) hx hb hts (by decide +kernel) tyX3 tyX3_ok nmX3 hown hK hP hD hS 0 rfl rfl 9 (by decide) (hts (.fieldLink RX3 49 "Shingletrack$Platter" "wordsWritten" "I") (by decide +kernel)) (fun _ h9 => h9) rfl (by decide +kernel) rfl rfl (Nat.le_of_ble_eq_true rfl) dX3_init_110 (fun H locs hP hD hS => ?_)
  have hP : va_P D vwCl [(h0, .inr (2, [.ref q5, .ref q16, .ref q27, .ref q39, .ref q52, .ref q65, .ref q78, .ref q91, .int 0, .int 0, .int 0, .int 0, .int 0])), (q5, .inr (5, [.ref b1_v1, .ref b1_v3])), (b1_v1, .inr (3, [.ref b1_v2])), (b1_v2, .inl (cJ, 60, .inr (.inl (fFil (fun _ => 0) (-1) 60)))), (q16, .inr (5, [.ref b2_v1, .ref b2_v3])), (b2_v1, .inr (3, [.ref b2_v2])), (b2_v2, .inl (cJ, 60, .inr (.inl (fFil (fun _ => 0) (-1) 60)))), (q27, .inr (3, [.ref a3])), (a3, .inl (cJ, 3, .inr (.inl (fun _ => 0)))), (q39, .inr (3, [.ref a4])), (a4, .inl (cJ, 60, .inr (.inl (fun _ => 0)))), (q52, .inr (3, [.ref a5])), (a5, .inl (cJ, 60, .inr (.inl (fun _ => 0)))), (q65, .inr (3, [.ref a6])), (a6, .inl (cJ, 60, .inr (.inl (fun _ => 0)))), (q78, .inr (3, [.ref a7])), (a7, .inl (cJ, 60, .inr (.inl (fun _ => 0)))), (q91, .inr (3, [.ref a8])), (a8, .inl (cJ, 60, .inr (.inl (fun _ => 0))))] H := hP
  have hD : va_D (va_A [(h0, .inr (2, [.null, .null, .null, .null, .null, .null, .null, .null, .int 0, .int 0, .int 0, .int 0, .int 0]))] s.heap.size) [(h0, .inr (2, [.ref q5, .ref q16, .ref q27, .ref q39, .ref q52, .ref q65, .ref q78, .ref q91, .int 0, .int 0, .int 0, .int 0, .int 0])), (q5, .inr (5, [.ref b1_v1, .ref b1_v3])), (b1_v1, .inr (3, [.ref b1_v2])), (b1_v2, .inl (cJ, 60, .inr (.inl (fFil (fun _ => 0) (-1) 60)))), (q16, .inr (5, [.ref b2_v1, .ref b2_v3])), (b2_v1, .inr (3, [.ref b2_v2])), (b2_v2, .inl (cJ, 60, .inr (.inl (fFil (fun _ => 0) (-1) 60)))), (q27, .inr (3, [.ref a3])), (a3, .inl (cJ, 3, .inr (.inl (fun _ => 0)))), (q39, .inr (3, [.ref a4])), (a4, .inl (cJ, 60, .inr (.inl (fun _ => 0)))), (q52, .inr (3, [.ref a5])), (a5, .inl (cJ, 60, .inr (.inl (fun _ => 0)))), (q65, .inr (3, [.ref a6])), (a6, .inl (cJ, 60, .inr (.inl (fun _ => 0)))), (q78, .inr (3, [.ref a7])), (a7, .inl (cJ, 60, .inr (.inl (fun _ => 0)))), (q91, .inr (3, [.ref a8])), (a8, .inl (cJ, 60, .inr (.inl (fun _ => 0))))] := hD
  refine lv_aload_n hx hb dX3_init_113 rfl (lv_at hl 0 rfl) ?_
  refine lv_iconst (v := 0) hx hb dX3_init_114 (by decide) ?_
  refine va_put (D := D) (ci := 2) (v := .int 0) (ty := .int) (C := RX3) (T := TX3) (N := 13) hx hb hts (by decide +kernel) tyX3 tyX3_ok nmX3 hown hK hP hD hS 0 rfl rfl 10 (by decide) (hts (.fieldLink RX3 53 "Shingletrack$Platter" "placesMended" "I") (by decide +kernel)) (fun _ h9 => h9) rfl (by decide +kernel) rfl rfl (Nat.le_of_ble_eq_true rfl) dX3_init_115 (fun H locs hP hD hS => ?_)
  have hP : va_P D vwCl [(h0, .inr (2, [.ref q5, .ref q16, .ref q27, .ref q39, .ref q52, .ref q65, .ref q78, .ref q91, .int 0, .int 0, .int 0, .int 0, .int 0])), (q5, .inr (5, [.ref b1_v1, .ref b1_v3])), (b1_v1, .inr (3, [.ref b1_v2])), (b1_v2, .inl (cJ, 60, .inr (.inl (fFil (fun _ => 0) (-1) 60)))), (q16, .inr (5, [.ref b2_v1, .ref b2_v3])), (b2_v1, .inr (3, [.ref b2_v2])), (b2_v2, .inl (cJ, 60, .inr (.inl (fFil (fun _ => 0) (-1) 60)))), (q27, .inr (3, [.ref a3])), (a3, .inl (cJ, 3, .inr (.inl (fun _ => 0)))), (q39, .inr (3, [.ref a4])), (a4, .inl (cJ, 60, .inr (.inl (fun _ => 0)))), (q52, .inr (3, [.ref a5])), (a5, .inl (cJ, 60, .inr (.inl (fun _ => 0)))), (q65, .inr (3, [.ref a6])), (a6, .inl (cJ, 60, .inr (.inl (fun _ => 0)))), (q78, .inr (3, [.ref a7])), (a7, .inl (cJ, 60, .inr (.inl (fun _ => 0)))), (q91, .inr (3, [.ref a8])), (a8, .inl (cJ, 60, .inr (.inl (fun _ => 0))))] H := hP
  have hD : va_D (va_A [(h0, .inr (2, [.null, .null, .null, .null, .null, .null, .null, .null, .int 0, .int 0, .int 0, .int 0, .int 0]))] s.heap.size) [(h0, .inr (2, [.ref q5, .ref q16, .ref q27, .ref q39, .ref q52, .ref q65, .ref q78, .ref q91, .int 0, .int 0, .int 0, .int 0, .int 0])), (q5, .inr (5, [.ref b1_v1, .ref b1_v3])), (b1_v1, .inr (3, [.ref b1_v2])), (b1_v2, .inl (cJ, 60, .inr (.inl (fFil (fun _ => 0) (-1) 60)))), (q16, .inr (5, [.ref b2_v1, .ref b2_v3])), (b2_v1, .inr (3, [.ref b2_v2])), (b2_v2, .inl (cJ, 60, .inr (.inl (fFil (fun _ => 0) (-1) 60)))), (q27, .inr (3, [.ref a3])), (a3, .inl (cJ, 3, .inr (.inl (fun _ => 0)))), (q39, .inr (3, [.ref a4])), (a4, .inl (cJ, 60, .inr (.inl (fun _ => 0)))), (q52, .inr (3, [.ref a5])), (a5, .inl (cJ, 60, .inr (.inl (fun _ => 0)))), (q65, .inr (3, [.ref a6])), (a6, .inl (cJ, 60, .inr (.inl (fun _ => 0)))), (q78, .inr (3, [.ref a7])), (a7, .inl (cJ, 60, .inr (.inl (fun _ => 0)))), (q91, .inr (3, [.ref a8])), (a8, .inl (cJ, 60, .inr (.inl (fun _ => 0))))] := hD
  refine lv_aload_n hx hb dX3_init_118 rfl (lv_at hl 0 rfl) ?_
  refine lv_iconst (v := 0) hx hb dX3_init_119 (by decide) ?_
  refine va_put (D := D) (ci := 2) (v := .int 0) (ty := .int) (C := RX3) (T := TX3) (N := 13) hx hb hts (by decide +kernel) tyX3 tyX3_ok nmX3 hown hK hP hD hS 0 rfl rfl 11 (by decide) (hts (.fieldLink RX3 56 "Shingletrack$Platter" "wordsLost" "I") (by decide +kernel)) (fun _ h9 => h9) rfl (by decide +kernel) rfl rfl (Nat.le_of_ble_eq_true rfl) dX3_init_120 (fun H locs hP hD hS => ?_)
  have hP : va_P D vwCl [(h0, .inr (2, [.ref q5, .ref q16, .ref q27, .ref q39, .ref q52, .ref q65, .ref q78, .ref q91, .int 0, .int 0, .int 0, .int 0, .int 0])), (q5, .inr (5, [.ref b1_v1, .ref b1_v3])), (b1_v1, .inr (3, [.ref b1_v2])), (b1_v2, .inl (cJ, 60, .inr (.inl (fFil (fun _ => 0) (-1) 60)))), (q16, .inr (5, [.ref b2_v1, .ref b2_v3])), (b2_v1, .inr (3, [.ref b2_v2])), (b2_v2, .inl (cJ, 60, .inr (.inl (fFil (fun _ => 0) (-1) 60)))), (q27, .inr (3, [.ref a3])), (a3, .inl (cJ, 3, .inr (.inl (fun _ => 0)))), (q39, .inr (3, [.ref a4])), (a4, .inl (cJ, 60, .inr (.inl (fun _ => 0)))), (q52, .inr (3, [.ref a5])), (a5, .inl (cJ, 60, .inr (.inl (fun _ => 0)))), (q65, .inr (3, [.ref a6])), (a6, .inl (cJ, 60, .inr (.inl (fun _ => 0)))), (q78, .inr (3, [.ref a7])), (a7, .inl (cJ, 60, .inr (.inl (fun _ => 0)))), (q91, .inr (3, [.ref a8])), (a8, .inl (cJ, 60, .inr (.inl (fun _ => 0))))] H := hP
  have hD : va_D (va_A [(h0, .inr (2, [.null, .null, .null, .null, .null, .null, .null, .null, .int 0, .int 0, .int 0, .int 0, .int 0]))] s.heap.size) [(h0, .inr (2, [.ref q5, .ref q16, .ref q27, .ref q39, .ref q52, .ref q65, .ref q78, .ref q91, .int 0, .int 0, .int 0, .int 0, .int 0])), (q5, .inr (5, [.ref b1_v1, .ref b1_v3])), (b1_v1, .inr (3, [.ref b1_v2])), (b1_v2, .inl (cJ, 60, .inr (.inl (fFil (fun _ => 0) (-1) 60)))), (q16, .inr (5, [.ref b2_v1, .ref b2_v3])), (b2_v1, .inr (3, [.ref b2_v2])), (b2_v2, .inl (cJ, 60, .inr (.inl (fFil (fun _ => 0) (-1) 60)))), (q27, .inr (3, [.ref a3])), (a3, .inl (cJ, 3, .inr (.inl (fun _ => 0)))), (q39, .inr (3, [.ref a4])), (a4, .inl (cJ, 60, .inr (.inl (fun _ => 0)))), (q52, .inr (3, [.ref a5])), (a5, .inl (cJ, 60, .inr (.inl (fun _ => 0)))), (q65, .inr (3, [.ref a6])), (a6, .inl (cJ, 60, .inr (.inl (fun _ => 0)))), (q78, .inr (3, [.ref a7])), (a7, .inl (cJ, 60, .inr (.inl (fun _ => 0)))), (q91, .inr (3, [.ref a8])), (a8, .inl (cJ, 60, .inr (.inl (fun _ => 0))))] := hD
  refine lv_aload_n hx hb dX3_init_123 rfl (lv_at hl 0 rfl) ?_
  refine lv_iconst (v := 0) hx hb dX3_init_124 (by decide) ?_
  refine va_put (D := D) (ci := 2) (v := .int 0) (ty := .int) (C := RX3) (T := TX3) (N := 13) hx hb hts (by decide +kernel) tyX3 tyX3_ok nmX3 hown hK hP hD hS 0 rfl rfl 12 (by decide) (hts (.fieldLink RX3 59 "Shingletrack$Platter" "cleanings" "I") (by decide +kernel)) (fun _ h9 => h9) rfl (by decide +kernel) rfl rfl (Nat.le_of_ble_eq_true rfl) dX3_init_125 (fun H locs hP hD hS => ?_)
  have hP : va_P D vwCl [(h0, .inr (2, [.ref q5, .ref q16, .ref q27, .ref q39, .ref q52, .ref q65, .ref q78, .ref q91, .int 0, .int 0, .int 0, .int 0, .int 0])), (q5, .inr (5, [.ref b1_v1, .ref b1_v3])), (b1_v1, .inr (3, [.ref b1_v2])), (b1_v2, .inl (cJ, 60, .inr (.inl (fFil (fun _ => 0) (-1) 60)))), (q16, .inr (5, [.ref b2_v1, .ref b2_v3])), (b2_v1, .inr (3, [.ref b2_v2])), (b2_v2, .inl (cJ, 60, .inr (.inl (fFil (fun _ => 0) (-1) 60)))), (q27, .inr (3, [.ref a3])), (a3, .inl (cJ, 3, .inr (.inl (fun _ => 0)))), (q39, .inr (3, [.ref a4])), (a4, .inl (cJ, 60, .inr (.inl (fun _ => 0)))), (q52, .inr (3, [.ref a5])), (a5, .inl (cJ, 60, .inr (.inl (fun _ => 0)))), (q65, .inr (3, [.ref a6])), (a6, .inl (cJ, 60, .inr (.inl (fun _ => 0)))), (q78, .inr (3, [.ref a7])), (a7, .inl (cJ, 60, .inr (.inl (fun _ => 0)))), (q91, .inr (3, [.ref a8])), (a8, .inl (cJ, 60, .inr (.inl (fun _ => 0))))] H := hP
  have hD : va_D (va_A [(h0, .inr (2, [.null, .null, .null, .null, .null, .null, .null, .null, .int 0, .int 0, .int 0, .int 0, .int 0]))] s.heap.size) [(h0, .inr (2, [.ref q5, .ref q16, .ref q27, .ref q39, .ref q52, .ref q65, .ref q78, .ref q91, .int 0, .int 0, .int 0, .int 0, .int 0])), (q5, .inr (5, [.ref b1_v1, .ref b1_v3])), (b1_v1, .inr (3, [.ref b1_v2])), (b1_v2, .inl (cJ, 60, .inr (.inl (fFil (fun _ => 0) (-1) 60)))), (q16, .inr (5, [.ref b2_v1, .ref b2_v3])), (b2_v1, .inr (3, [.ref b2_v2])), (b2_v2, .inl (cJ, 60, .inr (.inl (fFil (fun _ => 0) (-1) 60)))), (q27, .inr (3, [.ref a3])), (a3, .inl (cJ, 3, .inr (.inl (fun _ => 0)))), (q39, .inr (3, [.ref a4])), (a4, .inl (cJ, 60, .inr (.inl (fun _ => 0)))), (q52, .inr (3, [.ref a5])), (a5, .inl (cJ, 60, .inr (.inl (fun _ => 0)))), (q65, .inr (3, [.ref a6])), (a6, .inl (cJ, 60, .inr (.inl (fun _ => 0)))), (q78, .inr (3, [.ref a7])), (a7, .inl (cJ, 60, .inr (.inl (fun _ => 0)))), (q91, .inr (3, [.ref a8])), (a8, .inl (cJ, 60, .inr (.inl (fun _ => 0))))] := hD
  refine lv_aload_n hx hb dX3_init_128 rfl (lv_at hl 0 rfl) ?_
  refine va_get (D := D) (ci := 2) (v := .ref q78) (C := RX3) (T := TX3) (N := 13) hx hb hts (by decide +kernel) hown hK hP 0 rfl rfl 6 (by decide) (hts (.fieldLink RX3 39 "Shingletrack$Platter" "lastSent" "LShingletrack$Row;") (by decide +kernel)) (fun _ h9 => h9) rfl dX3_init_129 ?_
  refine lv_ldc2 (v := (-1)) hx hb hown (hts (.constantLong RX3 62 (-1)) (by decide +kernel)) dX3_init_132 ?_
  refine wu_callv (wr := [(h0, .inr (2, [.ref q5, .ref q16, .ref q27, .ref q39, .ref q52, .ref q65, .ref q78, .ref q91, .int 0, .int 0, .int 0, .int 0, .int 0])), (q5, .inr (5, [.ref b1_v1, .ref b1_v3])), (b1_v1, .inr (3, [.ref b1_v2])), (b1_v2, .inl (cJ, 60, .inr (.inl (fFil (fun _ => 0) (-1) 60)))), (q16, .inr (5, [.ref b2_v1, .ref b2_v3])), (b2_v1, .inr (3, [.ref b2_v2])), (b2_v2, .inl (cJ, 60, .inr (.inl (fFil (fun _ => 0) (-1) 60)))), (q27, .inr (3, [.ref a3])), (a3, .inl (cJ, 3, .inr (.inl (fun _ => 0)))), (q39, .inr (3, [.ref a4])), (a4, .inl (cJ, 60, .inr (.inl (fun _ => 0)))), (q52, .inr (3, [.ref a5])), (a5, .inl (cJ, 60, .inr (.inl (fun _ => 0)))), (q65, .inr (3, [.ref a6])), (a6, .inl (cJ, 60, .inr (.inl (fun _ => 0)))), (q91, .inr (3, [.ref a8])), (a8, .inl (cJ, 60, .inr (.inl (fun _ => 0))))]) (wn := [(h0, .inr (2, [.ref q5, .ref q16, .ref q27, .ref q39, .ref q52, .ref q65, .ref q78, .ref q91, .int 0, .int 0, .int 0, .int 0, .int 0])), (q5, .inr (5, [.ref b1_v1, .ref b1_v3])), (b1_v1, .inr (3, [.ref b1_v2])), (b1_v2, .inl (cJ, 60, .inr (.inl (fFil (fun _ => 0) (-1) 60)))), (q16, .inr (5, [.ref b2_v1, .ref b2_v3])), (b2_v1, .inr (3, [.ref b2_v2])), (b2_v2, .inl (cJ, 60, .inr (.inl (fFil (fun _ => 0) (-1) 60)))), (q27, .inr (3, [.ref a3])), (a3, .inl (cJ, 3, .inr (.inl (fun _ => 0)))), (q39, .inr (3, [.ref a4])), (a4, .inl (cJ, 60, .inr (.inl (fun _ => 0)))), (q52, .inr (3, [.ref a5])), (a5, .inl (cJ, 60, .inr (.inl (fun _ => 0)))), (q65, .inr (3, [.ref a6])), (a6, .inl (cJ, 60, .inr (.inl (fun _ => 0)))), (q78, .inr (3, [.ref a7])), (a7, .inl (cJ, 60, .inr (.inl (fFil (fun _ => 0) (-1) 60)))), (q91, .inr (3, [.ref a8])), (a8, .inl (cJ, 60, .inr (.inl (fun _ => 0))))]) (As := [.long (-1)]) (rest := []) ⟨hx, hb, hml, hown, hts⟩ (c_X4_fill l D cJ q78 a7 60 (by decide) (fun _ => 0) (-1)) (cwV 1 hts gX3_init_X4_fill rfl rfl rfl (by decide +kernel) ⟨(Nat.le_of_ble_eq_true rfl), (Nat.le_of_ble_eq_true rfl)⟩) (va_recv hK hP (ci := 3) (q0 := 15) rfl rfl) rfl hl.1 (lv_room (Nat.le_of_ble_eq_true rfl)) dX3_init_135 ⟨(Nat.le_of_ble_eq_true rfl), (Nat.le_of_ble_eq_true rfl)⟩ hS hA rfl hK hP hD [15, 16] [0, 1, 2, 3, 4, 5, 6, 7, 8, 9, 10, 11, 12, 13, 14, 17, 18] [0, 1, 2, 3, 4, 5, 6, 7, 8, 9, 10, 11, 12, 13, 14, 17, 18, 15, 16] rfl rfl (by decide) rfl (by decide) (by decide) rfl rfl (by decide) (fun H locs hP hD hS => ?_)
  have hP9 := hP.sub (ws' := [(h0, .inr (2, [.ref q5, .ref q16, .ref q27, .ref q39, .ref q52, .ref q65, .ref q78, .ref q91, .int 0, .int 0, .int 0, .int 0, .int 0])), (q5, .inr (5, [.ref b1_v1, .ref b1_v3])), (b1_v1, .inr (3, [.ref b1_v2])), (b1_v2, .inl (cJ, 60, .inr (.inl (fFil (fun _ => 0) (-1) 60)))), (q16, .inr (5, [.ref b2_v1, .ref b2_v3])), (b2_v1, .inr (3, [.ref b2_v2])), (b2_v2, .inl (cJ, 60, .inr (.inl (fFil (fun _ => 0) (-1) 60)))), (q78, .inr (3, [.ref a7])), (a7, .inl (cJ, 60, .inr (.inl (fFil (fun _ => 0) (-1) 60))))]) [0, 1, 2, 3, 4, 5, 6, 15, 16] rfl
  have hD9 := hD.sub (ws' := [(h0, .inr (2, [.ref q5, .ref q16, .ref q27, .ref q39, .ref q52, .ref q65, .ref q78, .ref q91, .int 0, .int 0, .int 0, .int 0, .int 0])), (q5, .inr (5, [.ref b1_v1, .ref b1_v3])), (b1_v1, .inr (3, [.ref b1_v2])), (b1_v2, .inl (cJ, 60, .inr (.inl (fFil (fun _ => 0) (-1) 60)))), (q16, .inr (5, [.ref b2_v1, .ref b2_v3])), (b2_v1, .inr (3, [.ref b2_v2])), (b2_v2, .inl (cJ, 60, .inr (.inl (fFil (fun _ => 0) (-1) 60)))), (q78, .inr (3, [.ref a7])), (a7, .inl (cJ, 60, .inr (.inl (fFil (fun _ => 0) (-1) 60))))]) [0, 1, 2, 3, 4, 5, 6, 15, 16] (by decide) rfl
  exact W.vret hx hb hr (fun t ht hW => ⟨⟨_, rfl, ⟨q5, b1_v1, b1_v2, q16, b2_v1, b2_v2, q78, a7, q27, q39, q52, q65, q91, b1_v3, b2_v3, rfl⟩, (by rw [ht]; exact hP9), va_K.moved hW.alike hK, hD9⟩, hS.F ht⟩) hS.2.2 dX3_init_138
end
section
/-! a constructor with words of its own (nest mates): K -/
def ncK (l : Launch) (y : MethodName) (ws : List Cond) (rm : Room) (av : List Value) (D : va_G) (cJ : ClassId) (w : va_W) (K : State → Prop) (Wof : va_W → Prop) (mc ms : Nat) : Prop := ∀ sz : Nat, Met l y ws rm (fun v U => wPre av D cJ w sz v U ∧ K U) (va_Qv Wof (wPost D cJ w sz) (va_A w sz)) mc ms (va_A w sz)
def nkPre (U : State) : Prop := va_Nw (.methodLinkNest RX8 11 yX2_init "Shingletrack") U ∧ va_Nw (.methodLinkNest RX8 18 yX0_init "Shingletrack") U ∧ va_Nw (.methodLinkNest RX8 32 yX5_init "Shingletrack") U
theorem nk_warm {s U : State} (hW : s.WarmedH U.vm) (h : nkPre s) : nkPre U := ⟨h.1.warmM hW, h.2.1.warmM hW, h.2.2.warmM hW⟩
theorem nk_same {u U : State} (h : u.vm = U.vm) (hk : nkPre u) : nkPre U := ⟨va_Nw.same rfl h hk.1, va_Nw.same rfl h hk.2.1, va_Nw.same rfl h hk.2.2⟩
section HN
variable {p : Program} {l : Launch} {e : Env} {R : Room} {s : State} {m : MethodId} {args : Array Value} {below : List Frame} {meth : Method} {c : Code} {H : Heap} {locs : List Loc} {cells slots : Nat} {Q : State → Prop}
variable {y : MethodName} {bytes cc : ByteArray} {maxL nL n index : Nat} {ws : List Cond} {rm : Room} {Ts : List Cond} {own host : String} {As rest : List Value} {pc : Nat} {ls : Array Slot} {st0 : List Value} {A0 : Nat → Prop} {H0 : Heap} {b : Nat} {D : va_G} {cJ : ClassId} {w wr wa : va_W}
theorem nu_callvN {Wof : va_W → Prop} {mc ms : Nat} (S : CallFix p m c cc nL s args Ts own) (hM : nc l y ws rm (.ref b :: As) D cJ w Wof mc ms) (cw : va_CN R s args own index y host bytes maxL none ws rm mc ms n ∧ y.name = "<init>" ∧ (Cond.instanceMethod y).before args s = true) (hn : As.length = n) (hsize : ls.size = nL)
    (hW : 2 * (F0 m pc ls st0).monitorRoom + (rest.map fun v => v.category).sum ≤ 8) (hdg : decode cc pc = .ok (.invokespecial index, 3)) (hf : cells + mc ≤ R.cells ∧ slots + ms ≤ R.slots) (hS : va_S A0 H0 H locs) (hA : ∀ q, H0.size ≤ q → A0 q) (hst : st0 = As.reverse ++ .ref b :: rest) (hK : va_K D vwCl [(cJ, .long)] s) (hP : va_P D vwCl wa H) (hD : va_D A0 wa)
    (isC isR : List Nat) (hC1 : isC.filterMap (fun i => wa[i]?) = w) (hC : isC.map (fun i => wa[i]?) = w.map some) (hCn : va_nd isC = true) (hR : isR.map (fun i => wa[i]?) = wr.map some) (hRn : va_nd isR = true) (hdis : ∀ i ∈ isR, i ∉ isC)
    (kk : ∀ (u : va_W) (H1 : Heap) (locs1 : List Loc), Wof u → va_P D vwCl (wr ++ u) H1 → va_D A0 (wr ++ u) → va_S A0 H0 H1 locs1 → W p l e R s m args below meth c H1 locs1 (cells + mc) (slots + ms) Q (F0 m (pc + 3) ls rest)) : W p l e R s m args below meth c H locs cells slots Q (F0 m pc ls st0) := by
  have hPc := hP.sub isC hC1
  have hDc := hD.sub isC hCn hC
  have hFc := va_free hD hS hA isC hC
  refine va_callv (va_runIN S (hM H.size) cw ⟨wPre_blind, fun U hU hW => ⟨rfl, by rw [hU], by rw [hU]; exact hPc, va_K.moved hW.alike hK, hDc.weaken (fun _ _ _ _ => trivial)⟩⟩ rfl hn hsize hst hW hdg hf) hS (fun q _ h => hFc q h) hFc (fun u t H1 locs1 ht hvm hp hB hz hk hS1 => ?_)
  obtain ⟨hP1, hK1, hD1⟩ := hB
  rw [ht] at hP1
  obtain ⟨hP2, hD2⟩ := va_join hP hD isC isR hC hR hRn hdis hk hFc hP1 hD1
  exact kk u H1 locs1 hp hP2 hD2 hS1
theorem nuK_callv {K : State → Prop} {Wof : va_W → Prop} {mc ms : Nat} (S : CallFix p m c cc nL s args Ts own) (hM : ncK l y ws rm (.ref b :: As) D cJ w K Wof mc ms) (hbl : ∀ (U : State) (g : JFrame) (mk : MethodId) (a : Array Value), K U → K (U.calling g mk a)) (hKs : ∀ U : State, s.WarmedH U.vm → K U) (cw : CallB R s args own index y bytes maxL none ws rm mc ms n ∧ y.name = "<init>" ∧ (Cond.instanceMethod y).before args s = true) (hn : As.length = n) (hsize : ls.size = nL)
    (hW : 2 * (F0 m pc ls st0).monitorRoom + (rest.map fun v => v.category).sum ≤ 8) (hdg : decode cc pc = .ok (.invokespecial index, 3)) (hf : cells + mc ≤ R.cells ∧ slots + ms ≤ R.slots) (hS : va_S A0 H0 H locs) (hA : ∀ q, H0.size ≤ q → A0 q) (hst : st0 = As.reverse ++ .ref b :: rest) (hK : va_K D vwCl [(cJ, .long)] s) (hP : va_P D vwCl wa H) (hD : va_D A0 wa)
    (isC isR : List Nat) (hC1 : isC.filterMap (fun i => wa[i]?) = w) (hC : isC.map (fun i => wa[i]?) = w.map some) (hCn : va_nd isC = true) (hR : isR.map (fun i => wa[i]?) = wr.map some) (hRn : va_nd isR = true) (hdis : ∀ i ∈ isR, i ∉ isC)
    (kk : ∀ (u : va_W) (H1 : Heap) (locs1 : List Loc), Wof u → va_P D vwCl (wr ++ u) H1 → va_D A0 (wr ++ u) → va_S A0 H0 H1 locs1 → W p l e R s m args below meth c H1 locs1 (cells + mc) (slots + ms) Q (F0 m (pc + 3) ls rest)) : W p l e R s m args below meth c H locs cells slots Q (F0 m pc ls st0) := by
  have hPc := hP.sub isC hC1
  have hDc := hD.sub isC hCn hC
  have hFc := va_free hD hS hA isC hC
  refine va_callv (va_runI S (hM H.size) cw ⟨fun a U g mk q => ⟨wPre_blind a U g mk q.1, hbl U g mk a q.2⟩, fun U hU hW => ⟨⟨rfl, by rw [hU], by rw [hU]; exact hPc, va_K.moved hW.alike hK, hDc.weaken (fun _ _ _ _ => trivial)⟩, hKs U hW⟩⟩ rfl hn hsize hst hW hdg hf) hS (fun q _ h => hFc q h) hFc (fun u t H1 locs1 ht hvm hp hB hz hk hS1 => ?_)
  obtain ⟨hP1, hK1, hD1⟩ := hB
  rw [ht] at hP1
  obtain ⟨hP2, hD2⟩ := va_join hP hD isC isR hC hR hRn hdis hk hFc hP1 hD1
  exact kk u H1 locs1 hp hP2 hD2 hS1
end HN
set_option maxHeartbeats 4000000 in
set_option maxRecDepth 100000 in
theorem c_X8_init (l : Launch) (D : va_G) (cJ : ClassId) (h0 : Nat) : ncK l yX8_init wsX8_init ({ frames := 4, cells := 44, slots := 651, locals := 73 } : Room) [.ref h0] D cJ [(h0, .inr (6, [.null, .null, .null, .null, .int 0, .int 0, .int 0, .int 0]))] nkPre (fun u => ∃ v1 v2 v3 v4 v5 v6 v7 v8 v9 v10 v11 v12 v13 v14 v15 v16 v17 v18 v19 v20 v21 v22 v23 v24 v25 v26 v27 v28 v29 v30 v31 : Nat, u = [(h0, .inr (6, [.ref v1, .ref v12, .ref v13, .ref v22, .int 0, .int 20, .int 0, .int 0])), (v1, .inr (1, [.ref v2, .int 0, .ref v4, .ref v6, .ref v8, .ref v10])), (v2, .inr (3, [.ref v3])), (v3, .inl (cJ, 12, .inr (.inl (fun _ => 0)))), (v4, .inr (3, [.ref v5])), (v5, .inl (cJ, 4, .inr (.inl (fun _ => 0)))), (v6, .inr (3, [.ref v7])), (v7, .inl (cJ, 4, .inr (.inl (fun _ => 0)))), (v8, .inr (3, [.ref v9])), (v9, .inl (cJ, 4, .inr (.inl (fun _ => 0)))), (v10, .inr (3, [.ref v11])), (v11, .inl (cJ, 4, .inr (.inl (fun _ => 0)))), (v12, .inr (0, [.ref v23, .ref v24, .int 0])), (v13, .inr (2, [.ref v14, .ref v17, .ref v25, .ref v26, .ref v27, .ref v28, .ref v20, .ref v29, .int 0, .int 0, .int 0, .int 0, .int 0])), (v14, .inr (5, [.ref v15, .ref v30])), (v15, .inr (3, [.ref v16])), (v16, .inl (cJ, 60, .inr (.inl (fFil (fun _ => 0) (-1) 60)))), (v17, .inr (5, [.ref v18, .ref v31])), (v18, .inr (3, [.ref v19])), (v19, .inl (cJ, 60, .inr (.inl (fFil (fun _ => 0) (-1) 60)))), (v20, .inr (3, [.ref v21])), (v21, .inl (cJ, 60, .inr (.inl (fFil (fun _ => 0) (-1) 60))))]) 44 651 := by
  intro sz
  refine Met.ofW (cc := cX8_init) (maxL := 1) (ret := none) (by decide) rfl ?_
  intro p e s m args below meth c s₁ B hml hv
  obtain ⟨⟨rfl, rfl, hP, hK, hD0⟩, hN⟩ := hv
  have hx := B.exec
  have hb := B.bytes
  have hr := B.returns
  have hts := atoms_spec (ws := wsX8_init) B.pre
  have hown : s.vm.findClass RX8 = some m.cls := findClass_of_methodNamed B.named
  have hlocks := B.notSynchronized
  have hin : meth.name = "<init>" := (name_of_methodNamed B.named B.method).1
  have hS : va_S (va_A [(h0, .inr (6, [.null, .null, .null, .null, .int 0, .int 0, .int 0, .int 0]))] s.heap.size) s.heap s.heap [] := va_S.rf
  have hD := hD0.self (sz := s.heap.size)
  have hA : ∀ q : Nat, s.heap.size ≤ q → (va_A [(h0, .inr (6, [.null, .null, .null, .null, .int 0, .int 0, .int 0, .int 0]))] s.heap.size) q := fun _ h => Or.inr h
  have hl := lv_entry ([.ref h0]) (n := 1) (Nat.le_of_ble_eq_true rfl)
  rw [lg_entry_eq]
  generalize (lg_sl ([.ref h0]) ++ List.replicate (1 - (lg_sl ([.ref h0])).length) Slot.unset).toArray = ls at hl ⊢
  have hl : lv_has ls 1 [(0, .ref h0)] := hl
  have hP : va_P D vwCl [(h0, .inr (6, [.null, .null, .null, .null, .int 0, .int 0, .int 0, .int 0]))] s.heap := hP
  refine lv_aload_n hx hb dX8_init_0 rfl (lv_at hl 0 rfl) ?_
  refine W.objInit hx hb hown (hts (.methodLink RX8 3 objectInit) (by decide +kernel)) (hts (.instanceMethod objectInit) (by decide +kernel)) (hts _ (List.mem_of_getElem? (i := 3) rfl)) rfl (by rw [hml]; exact hl.1) rfl dX8_init_1 (Nat.le_of_ble_eq_true rfl) (Nat.le_of_ble_eq_true rfl) ?_
  refine W.eq (g2 := F0 m 4 ls []) rfl ?_
  refine lv_aload_n hx hb dX8_init_4 rfl (lv_at hl 0 rfl) ?_
  refine va_new (ci := 1) (fs := [.null, .int 0, .null, .null, .null, .null]) (C := RX2) (T := TX2) (N := 6) hx hb hts (by decide +kernel) tyX2 tyX2_ok hown (hts (.classLink RX8 9 RX2) (by decide +kernel)) (hts (.instantiable RX2 6) (by decide +kernel)) (hts (.initialized RX2) (by decide +kernel)) hK hP hD hS hA rfl (fun j hj => by rcases (show j = 0 ∨ j = 1 ∨ j = 2 ∨ j = 3 ∨ j = 4 ∨ j = 5 by omega) with rfl | rfl | rfl | rfl | rfl | rfl <;> rfl) (Nat.le_of_ble_eq_true rfl) (Nat.le_of_ble_eq_true rfl) dX8_init_5 (fun q5 H hP hD hS => ?_)
  have hP : va_P D vwCl [(h0, .inr (6, [.null, .null, .null, .null, .int 0, .int 0, .int 0, .int 0])), (q5, .inr (1, [.null, .int 0, .null, .null, .null, .null]))] H := hP
  have hD : va_D (va_A [(h0, .inr (6, [.null, .null, .null, .null, .int 0, .int 0, .int 0, .int 0]))] s.heap.size) [(h0, .inr (6, [.null, .null, .null, .null, .int 0, .int 0, .int 0, .int 0])), (q5, .inr (1, [.null, .int 0, .null, .null, .null, .null]))] := hD
  refine W.widen (k := 1) (n := 6) (by omega) (by omega) ?_
  refine lv_dup hx hb dX8_init_8 rfl ?_
  refine nu_callvN (As := []) (rest := [.ref q5, .ref h0]) (wr := [(h0, .inr (6, [.null, .null, .null, .null, .int 0, .int 0, .int 0, .int 0]))]) (host := "Shingletrack") ⟨hx, hb, hml, hown, hts⟩ (c_X2_init l D cJ q5) ⟨va_cnB 0 hts gX8_init_X2_init_n11 rfl rfl rfl hN.1 (hts (.initialized RX2) (by decide +kernel)) (by decide +kernel) ⟨(Nat.le_of_ble_eq_true rfl), (Nat.le_of_ble_eq_true rfl)⟩, rfl, hts (.instanceMethod yX2_init) (by decide +kernel)⟩ rfl hl.1 (lv_room (Nat.le_of_ble_eq_true rfl)) dX8_init_9 ⟨(Nat.le_of_ble_eq_true rfl), (Nat.le_of_ble_eq_true rfl)⟩ hS hA rfl hK hP hD [1] [0] rfl rfl (by decide) rfl (by decide) (by decide) (fun u H locs hw hP hD hS => ?_)
  obtain ⟨b1_v1, b1_v2, b1_v3, b1_v4, b1_v5, b1_v6, b1_v7, b1_v8, b1_v9, b1_v10, rfl⟩ := hw
  have hP : va_P D vwCl [(h0, .inr (6, [.null, .null, .null, .null, .int 0, .int 0, .int 0, .int 0])), (q5, .inr (1, [.ref b1_v1, .int 0, .ref b1_v3, .ref b1_v5, .ref b1_v7, .ref b1_v9])), (b1_v1, .inr (3, [.ref b1_v2])), (b1_v2, .inl (cJ, 12, .inr (.inl (fun _ => 0)))), (b1_v3, .inr (3, [.ref b1_v4])), (b1_v4, .inl (cJ, 4, .inr (.inl (fun _ => 0)))), (b1_v5, .inr (3, [.ref b1_v6])), (b1_v6, .inl (cJ, 4, .inr (.inl (fun _ => 0)))), (b1_v7, .inr (3, [.ref b1_v8])), (b1_v8, .inl (cJ, 4, .inr (.inl (fun _ => 0)))), (b1_v9, .inr (3, [.ref b1_v10])), (b1_v10, .inl (cJ, 4, .inr (.inl (fun _ => 0))))] H := hP
  have hD : va_D (va_A [(h0, .inr (6, [.null, .null, .null, .null, .int 0, .int 0, .int 0, .int 0]))] s.heap.size) [(h0, .inr (6, [.null, .null, .null, .null, .int 0, .int 0, .int 0, .int 0])), (q5, .inr (1, [.ref b1_v1, .int 0, .ref b1_v3, .ref b1_v5, .ref b1_v7, .ref b1_v9])), (b1_v1, .inr (3, [.ref b1_v2])), (b1_v2, .inl (cJ, 12, .inr (.inl (fun _ => 0)))), (b1_v3, .inr (3, [.ref b1_v4])), (b1_v4, .inl (cJ, 4, .inr (.inl (fun _ => 0)))), (b1_v5, .inr (3, [.ref b1_v6])), (b1_v6, .inl (cJ, 4, .inr (.inl (fun _ => 0)))), (b1_v7, .inr (3, [.ref b1_v8])), (b1_v8, .inl (cJ, 4, .inr (.inl (fun _ => 0)))), (b1_v9, .inr (3, [.ref b1_v10])), (b1_v10, .inl (cJ, 4, .inr (.inl (fun _ => 0))))] := hD
  refine W.widen (k := 11) (n := 39) (by omega) (by omega) ?_
  refine va_putF (D := D) (ci := 6) (v := .ref q5) (ty := .object "Shingletrack$Channel") (C := RX8) (T := TX8) (N := 8) hx hb hts (by decide +kernel) tyX8 tyX8_ok nmX8 hown hK hP hD hS 0 rfl rfl 0 (by decide) (hts (.fieldLink RX8 12 "Shingletrack" "channel" "LShingletrack$Channel;") (by decide +kernel)) (fun _ h9 => h9) rfl hin rfl (by decide +kernel) rfl rfl (Nat.le_of_ble_eq_true rfl) dX8_init_12 (fun H locs hP hD hS => ?_)
  have hP : va_P D vwCl [(h0, .inr (6, [.ref q5, .null, .null, .null, .int 0, .int 0, .int 0, .int 0])), (q5, .inr (1, [.ref b1_v1, .int 0, .ref b1_v3, .ref b1_v5, .ref b1_v7, .ref b1_v9])), (b1_v1, .inr (3, [.ref b1_v2])), (b1_v2, .inl (cJ, 12, .inr (.inl (fun _ => 0)))), (b1_v3, .inr (3, [.ref b1_v4])), (b1_v4, .inl (cJ, 4, .inr (.inl (fun _ => 0)))), (b1_v5, .inr (3, [.ref b1_v6])), (b1_v6, .inl (cJ, 4, .inr (.inl (fun _ => 0)))), (b1_v7, .inr (3, [.ref b1_v8])), (b1_v8, .inl (cJ, 4, .inr (.inl (fun _ => 0)))), (b1_v9, .inr (3, [.ref b1_v10])), (b1_v10, .inl (cJ, 4, .inr (.inl (fun _ => 0))))] H := hP
  have hD : va_D (va_A [(h0, .inr (6, [.null, .null, .null, .null, .int 0, .int 0, .int 0, .int 0]))] s.heap.size) [(h0, .inr (6, [.ref q5, .null, .null, .null, .int 0, .int 0, .int 0, .int 0])), (q5, .inr (1, [.ref b1_v1, .int 0, .ref b1_v3, .ref b1_v5, .ref b1_v7, .ref b1_v9])), (b1_v1, .inr (3, [.ref b1_v2])), (b1_v2, .inl (cJ, 12, .inr (.inl (fun _ => 0)))), (b1_v3, .inr (3, [.ref b1_v4])), (b1_v4, .inl (cJ, 4, .inr (.inl (fun _ => 0)))), (b1_v5, .inr (3, [.ref b1_v6])), (b1_v6, .inl (cJ, 4, .inr (.inl (fun _ => 0)))), (b1_v7, .inr (3, [.ref b1_v8])), (b1_v8, .inl (cJ, 4, .inr (.inl (fun _ => 0)))), (b1_v9, .inr (3, [.ref b1_v10])), (b1_v10, .inl (cJ, 4, .inr (.inl (fun _ => 0))))] := hD
  refine lv_aload_n hx hb dX8_init_15 rfl (lv_at hl 0 rfl) ?_
  refine va_new (ci := 0) (fs := [.null, .null, .int 0]) (C := RX0) (T := TX0) (N := 3) hx hb hts (by decide +kernel) tyX0 tyX0_ok hown (hts (.classLink RX8 16 RX0) (by decide +kernel)) (hts (.instantiable RX0 3) (by decide +kernel)) (hts (.initialized RX0) (by decide +kernel)) hK hP hD hS hA rfl (fun j hj => by rcases (show j = 0 ∨ j = 1 ∨ j = 2 by omega) with rfl | rfl | rfl <;> rfl) (Nat.le_of_ble_eq_true rfl) (Nat.le_of_ble_eq_true rfl) dX8_init_16 (fun q16 H hP hD hS => ?_)
  have hP : va_P D vwCl [(h0, .inr (6, [.ref q5, .null, .null, .null, .int 0, .int 0, .int 0, .int 0])), (q5, .inr (1, [.ref b1_v1, .int 0, .ref b1_v3, .ref b1_v5, .ref b1_v7, .ref b1_v9])), (b1_v1, .inr (3, [.ref b1_v2])), (b1_v2, .inl (cJ, 12, .inr (.inl (fun _ => 0)))), (b1_v3, .inr (3, [.ref b1_v4])), (b1_v4, .inl (cJ, 4, .inr (.inl (fun _ => 0)))), (b1_v5, .inr (3, [.ref b1_v6])), (b1_v6, .inl (cJ, 4, .inr (.inl (fun _ => 0)))), (b1_v7, .inr (3, [.ref b1_v8])), (b1_v8, .inl (cJ, 4, .inr (.inl (fun _ => 0)))), (b1_v9, .inr (3, [.ref b1_v10])), (b1_v10, .inl (cJ, 4, .inr (.inl (fun _ => 0)))), (q16, .inr (0, [.null, .null, .int 0]))] H := hP
  have hD : va_D (va_A [(h0, .inr (6, [.null, .null, .null, .null, .int 0, .int 0, .int 0, .int 0]))] s.heap.size) [(h0, .inr (6, [.ref q5, .null, .null, .null, .int 0, .int 0, .int 0, .int 0])), (q5, .inr (1, [.ref b1_v1, .int 0, .ref b1_v3, .ref b1_v5, .ref b1_v7, .ref b1_v9])), (b1_v1, .inr (3, [.ref b1_v2])), (b1_v2, .inl (cJ, 12, .inr (.inl (fun _ => 0)))), (b1_v3, .inr (3, [.ref b1_v4])), (b1_v4, .inl (cJ, 4, .inr (.inl (fun _ => 0)))), (b1_v5, .inr (3, [.ref b1_v6])), (b1_v6, .inl (cJ, 4, .inr (.inl (fun _ => 0)))), (b1_v7, .inr (3, [.ref b1_v8])), (b1_v8, .inl (cJ, 4, .inr (.inl (fun _ => 0)))), (b1_v9, .inr (3, [.ref b1_v10])), (b1_v10, .inl (cJ, 4, .inr (.inl (fun _ => 0)))), (q16, .inr (0, [.null, .null, .int 0]))] := hD
  refine W.widen (k := 12) (n := 42) (by omega) (by omega) ?_
  refine lv_dup hx hb dX8_init_19 rfl ?_
  refine nu_callvN (As := []) (rest := [.ref q16, .ref h0]) (wr := [(h0, .inr (6, [.ref q5, .null, .null, .null, .int 0, .int 0, .int 0, .int 0])), (q5, .inr (1, [.ref b1_v1, .int 0, .ref b1_v3, .ref b1_v5, .ref b1_v7, .ref b1_v9])), (b1_v1, .inr (3, [.ref b1_v2])), (b1_v2, .inl (cJ, 12, .inr (.inl (fun _ => 0)))), (b1_v3, .inr (3, [.ref b1_v4])), (b1_v4, .inl (cJ, 4, .inr (.inl (fun _ => 0)))), (b1_v5, .inr (3, [.ref b1_v6])), (b1_v6, .inl (cJ, 4, .inr (.inl (fun _ => 0)))), (b1_v7, .inr (3, [.ref b1_v8])), (b1_v8, .inl (cJ, 4, .inr (.inl (fun _ => 0)))), (b1_v9, .inr (3, [.ref b1_v10])), (b1_v10, .inl (cJ, 4, .inr (.inl (fun _ => 0))))]) (host := "Shingletrack") ⟨hx, hb, hml, hown, hts⟩ (c_X0_init l D cJ q16) ⟨va_cnB 0 hts gX8_init_X0_init_n18 rfl rfl rfl hN.2.1 (hts (.initialized RX0) (by decide +kernel)) (by decide +kernel) ⟨(Nat.le_of_ble_eq_true rfl), (Nat.le_of_ble_eq_true rfl)⟩, rfl, hts (.instanceMethod yX0_init) (by decide +kernel)⟩ rfl hl.1 (lv_room (Nat.le_of_ble_eq_true rfl)) dX8_init_20 ⟨(Nat.le_of_ble_eq_true rfl), (Nat.le_of_ble_eq_true rfl)⟩ hS hA rfl hK hP hD [12] [0, 1, 2, 3, 4, 5, 6, 7, 8, 9, 10, 11] rfl rfl (by decide) rfl (by decide) (by decide) (fun u H locs hw hP hD hS => ?_)
  obtain ⟨b2_v1, b2_v2, rfl⟩ := hw
  have hP : va_P D vwCl [(h0, .inr (6, [.ref q5, .null, .null, .null, .int 0, .int 0, .int 0, .int 0])), (q5, .inr (1, [.ref b1_v1, .int 0, .ref b1_v3, .ref b1_v5, .ref b1_v7, .ref b1_v9])), (b1_v1, .inr (3, [.ref b1_v2])), (b1_v2, .inl (cJ, 12, .inr (.inl (fun _ => 0)))), (b1_v3, .inr (3, [.ref b1_v4])), (b1_v4, .inl (cJ, 4, .inr (.inl (fun _ => 0)))), (b1_v5, .inr (3, [.ref b1_v6])), (b1_v6, .inl (cJ, 4, .inr (.inl (fun _ => 0)))), (b1_v7, .inr (3, [.ref b1_v8])), (b1_v8, .inl (cJ, 4, .inr (.inl (fun _ => 0)))), (b1_v9, .inr (3, [.ref b1_v10])), (b1_v10, .inl (cJ, 4, .inr (.inl (fun _ => 0)))), (q16, .inr (0, [.ref b2_v1, .ref b2_v2, .int 0]))] H := hP
  have hD : va_D (va_A [(h0, .inr (6, [.null, .null, .null, .null, .int 0, .int 0, .int 0, .int 0]))] s.heap.size) [(h0, .inr (6, [.ref q5, .null, .null, .null, .int 0, .int 0, .int 0, .int 0])), (q5, .inr (1, [.ref b1_v1, .int 0, .ref b1_v3, .ref b1_v5, .ref b1_v7, .ref b1_v9])), (b1_v1, .inr (3, [.ref b1_v2])), (b1_v2, .inl (cJ, 12, .inr (.inl (fun _ => 0)))), (b1_v3, .inr (3, [.ref b1_v4])), (b1_v4, .inl (cJ, 4, .inr (.inl (fun _ => 0)))), (b1_v5, .inr (3, [.ref b1_v6])), (b1_v6, .inl (cJ, 4, .inr (.inl (fun _ => 0)))), (b1_v7, .inr (3, [.ref b1_v8])), (b1_v8, .inl (cJ, 4, .inr (.inl (fun _ => 0)))), (b1_v9, .inr (3, [.ref b1_v10])), (b1_v10, .inl (cJ, 4, .inr (.inl (fun _ => 0)))), (q16, .inr (0, [.ref b2_v1, .ref b2_v2, .int 0]))] := hD
  refine W.widen (k := 16) (n := 56) (by omega) (by omega) ?_
  refine va_putF (D := D) (ci := 6) (v := .ref q16) (ty := .object "Shingletrack$Buffer") (C := RX8) (T := TX8) (N := 8) hx hb hts (by decide +kernel) tyX8 tyX8_ok nmX8 hown hK hP hD hS 0 rfl rfl 1 (by decide) (hts (.fieldLink RX8 19 "Shingletrack" "buffer" "LShingletrack$Buffer;") (by decide +kernel)) (fun _ h9 => h9) rfl hin rfl (by decide +kernel) rfl rfl (Nat.le_of_ble_eq_true rfl) dX8_init_23 (fun H locs hP hD hS => ?_)
  have hP : va_P D vwCl [(h0, .inr (6, [.ref q5, .ref q16, .null, .null, .int 0, .int 0, .int 0, .int 0])), (q5, .inr (1, [.ref b1_v1, .int 0, .ref b1_v3, .ref b1_v5, .ref b1_v7, .ref b1_v9])), (b1_v1, .inr (3, [.ref b1_v2])), (b1_v2, .inl (cJ, 12, .inr (.inl (fun _ => 0)))), (b1_v3, .inr (3, [.ref b1_v4])), (b1_v4, .inl (cJ, 4, .inr (.inl (fun _ => 0)))), (b1_v5, .inr (3, [.ref b1_v6])), (b1_v6, .inl (cJ, 4, .inr (.inl (fun _ => 0)))), (b1_v7, .inr (3, [.ref b1_v8])), (b1_v8, .inl (cJ, 4, .inr (.inl (fun _ => 0)))), (b1_v9, .inr (3, [.ref b1_v10])), (b1_v10, .inl (cJ, 4, .inr (.inl (fun _ => 0)))), (q16, .inr (0, [.ref b2_v1, .ref b2_v2, .int 0]))] H := hP
  have hD : va_D (va_A [(h0, .inr (6, [.null, .null, .null, .null, .int 0, .int 0, .int 0, .int 0]))] s.heap.size) [(h0, .inr (6, [.ref q5, .ref q16, .null, .null, .int 0, .int 0, .int 0, .int 0])), (q5, .inr (1, [.ref b1_v1, .int 0, .ref b1_v3, .ref b1_v5, .ref b1_v7, .ref b1_v9])), (b1_v1, .inr (3, [.ref b1_v2])), (b1_v2, .inl (cJ, 12, .inr (.inl (fun _ => 0)))), (b1_v3, .inr (3, [.ref b1_v4])), (b1_v4, .inl (cJ, 4, .inr (.inl (fun _ => 0)))), (b1_v5, .inr (3, [.ref b1_v6])), (b1_v6, .inl (cJ, 4, .inr (.inl (fun _ => 0)))), (b1_v7, .inr (3, [.ref b1_v8])), (b1_v8, .inl (cJ, 4, .inr (.inl (fun _ => 0)))), (b1_v9, .inr (3, [.ref b1_v10])), (b1_v10, .inl (cJ, 4, .inr (.inl (fun _ => 0)))), (q16, .inr (0, [.ref b2_v1, .ref b2_v2, .int 0]))] := hD
  refine lv_aload_n hx hb dX8_init_26 rfl (lv_at hl 0 rfl) ?_
  refine va_new (ci := 2) (fs := [.null, .null, .null, .null, .null, .null, .null, .null, .int 0, .int 0, .int 0, .int 0, .int 0]) (C := RX3) (T := TX3) (N := 13) hx hb hts (by decide +kernel) tyX3 tyX3_ok hown (hts (.classLink RX8 23 RX3) (by decide +kernel)) (hts (.instantiable RX3 13) (by decide +kernel)) (hts (.initialized RX3) (by decide +kernel)) hK hP hD hS hA rfl (fun j hj => by rcases (show j = 0 ∨ j = 1 ∨ j = 2 ∨ j = 3 ∨ j = 4 ∨ j = 5 ∨ j = 6 ∨ j = 7 ∨ j = 8 ∨ j = 9 ∨ j = 10 ∨ j = 11 ∨ j = 12 by omega) with rfl | rfl | rfl | rfl | rfl | rfl | rfl | rfl | rfl | rfl | rfl | rfl | rfl <;> rfl) (Nat.le_of_ble_eq_true rfl) (Nat.le_of_ble_eq_true rfl) dX8_init_27 (fun q27 H hP hD hS => ?_)
  have hP : va_P D vwCl [(h0, .inr (6, [.ref q5, .ref q16, .null, .null, .int 0, .int 0, .int 0, .int 0])), (q5, .inr (1, [.ref b1_v1, .int 0, .ref b1_v3, .ref b1_v5, .ref b1_v7, .ref b1_v9])), (b1_v1, .inr (3, [.ref b1_v2])), (b1_v2, .inl (cJ, 12, .inr (.inl (fun _ => 0)))), (b1_v3, .inr (3, [.ref b1_v4])), (b1_v4, .inl (cJ, 4, .inr (.inl (fun _ => 0)))), (b1_v5, .inr (3, [.ref b1_v6])), (b1_v6, .inl (cJ, 4, .inr (.inl (fun _ => 0)))), (b1_v7, .inr (3, [.ref b1_v8])), (b1_v8, .inl (cJ, 4, .inr (.inl (fun _ => 0)))), (b1_v9, .inr (3, [.ref b1_v10])), (b1_v10, .inl (cJ, 4, .inr (.inl (fun _ => 0)))), (q16, .inr (0, [.ref b2_v1, .ref b2_v2, .int 0])), (q27, .inr (2, [.null, .null, .null, .null, .null, .null, .null, .null, .int 0, .int 0, .int 0, .int 0, .int 0]))] H := hP
  have hD : va_D (va_A [(h0, .inr (6, [.null, .null, .null, .null, .int 0, .int 0, .int 0, .int 0]))] s.heap.size) [(h0, .inr (6, [.ref q5, .ref q16, .null, .null, .int 0, .int 0, .int 0, .int 0])), (q5, .inr (1, [.ref b1_v1, .int 0, .ref b1_v3, .ref b1_v5, .ref b1_v7, .ref b1_v9])), (b1_v1, .inr (3, [.ref b1_v2])), (b1_v2, .inl (cJ, 12, .inr (.inl (fun _ => 0)))), (b1_v3, .inr (3, [.ref b1_v4])), (b1_v4, .inl (cJ, 4, .inr (.inl (fun _ => 0)))), (b1_v5, .inr (3, [.ref b1_v6])), (b1_v6, .inl (cJ, 4, .inr (.inl (fun _ => 0)))), (b1_v7, .inr (3, [.ref b1_v8])), (b1_v8, .inl (cJ, 4, .inr (.inl (fun _ => 0)))), (b1_v9, .inr (3, [.ref b1_v10])), (b1_v10, .inl (cJ, 4, .inr (.inl (fun _ => 0)))), (q16, .inr (0, [.ref b2_v1, .ref b2_v2, .int 0])), (q27, .inr (2, [.null, .null, .null, .null, .null, .null, .null, .null, .int 0, .int 0, .int 0, .int 0, .int 0]))] := hD
  refine W.widen (k := 17) (n := 69) (by omega) (by omega) ?_
  refine lv_dup hx hb dX8_init_30 rfl ?_
  refine nu_callv (As := []) (rest := [.ref q27, .ref h0]) (wr := [(h0, .inr (6, [.ref q5, .ref q16, .null, .null, .int 0, .int 0, .int 0, .int 0])), (q5, .inr (1, [.ref b1_v1, .int 0, .ref b1_v3, .ref b1_v5, .ref b1_v7, .ref b1_v9])), (b1_v1, .inr (3, [.ref b1_v2])), (b1_v2, .inl (cJ, 12, .inr (.inl (fun _ => 0)))), (b1_v3, .inr (3, [.ref b1_v4])), (b1_v4, .inl (cJ, 4, .inr (.inl (fun _ => 0)))), (b1_v5, .inr (3, [.ref b1_v6])), (b1_v6, .inl (cJ, 4, .inr (.inl (fun _ => 0)))), (b1_v7, .inr (3, [.ref b1_v8])), (b1_v8, .inl (cJ, 4, .inr (.inl (fun _ => 0)))), (b1_v9, .inr (3, [.ref b1_v10])), (b1_v10, .inl (cJ, 4, .inr (.inl (fun _ => 0)))), (q16, .inr (0, [.ref b2_v1, .ref b2_v2, .int 0]))]) ⟨hx, hb, hml, hown, hts⟩ (c_X3_init l D cJ q27) (cwI 0 hts gX8_init_X3_init rfl rfl rfl (hts (.initialized RX3) (by decide +kernel)) (hts (.methodLink RX8 25 yX3_init) (by decide +kernel)) (hts (.instanceMethod yX3_init) (by decide +kernel)) rfl (by decide +kernel) ⟨(Nat.le_of_ble_eq_true rfl), (Nat.le_of_ble_eq_true rfl)⟩) rfl hl.1 (lv_room (Nat.le_of_ble_eq_true rfl)) dX8_init_31 ⟨(Nat.le_of_ble_eq_true rfl), (Nat.le_of_ble_eq_true rfl)⟩ hS hA rfl hK hP hD [13] [0, 1, 2, 3, 4, 5, 6, 7, 8, 9, 10, 11, 12] rfl rfl (by decide) rfl (by decide) (by decide) (fun u H locs hw hP hD hS => ?_)
  obtain ⟨b3_v1, b3_v2, b3_v3, b3_v4, b3_v5, b3_v6, b3_v7, b3_v8, b3_v9, b3_v10, b3_v11, b3_v12, b3_v13, b3_v14, b3_v15, rfl⟩ := hw
  have hP : va_P D vwCl [(h0, .inr (6, [.ref q5, .ref q16, .null, .null, .int 0, .int 0, .int 0, .int 0])), (q5, .inr (1, [.ref b1_v1, .int 0, .ref b1_v3, .ref b1_v5, .ref b1_v7, .ref b1_v9])), (b1_v1, .inr (3, [.ref b1_v2])), (b1_v2, .inl (cJ, 12, .inr (.inl (fun _ => 0)))), (b1_v3, .inr (3, [.ref b1_v4])), (b1_v4, .inl (cJ, 4, .inr (.inl (fun _ => 0)))), (b1_v5, .inr (3, [.ref b1_v6])), (b1_v6, .inl (cJ, 4, .inr (.inl (fun _ => 0)))), (b1_v7, .inr (3, [.ref b1_v8])), (b1_v8, .inl (cJ, 4, .inr (.inl (fun _ => 0)))), (b1_v9, .inr (3, [.ref b1_v10])), (b1_v10, .inl (cJ, 4, .inr (.inl (fun _ => 0)))), (q16, .inr (0, [.ref b2_v1, .ref b2_v2, .int 0])), (q27, .inr (2, [.ref b3_v1, .ref b3_v4, .ref b3_v9, .ref b3_v10, .ref b3_v11, .ref b3_v12, .ref b3_v7, .ref b3_v13, .int 0, .int 0, .int 0, .int 0, .int 0])), (b3_v1, .inr (5, [.ref b3_v2, .ref b3_v14])), (b3_v2, .inr (3, [.ref b3_v3])), (b3_v3, .inl (cJ, 60, .inr (.inl (fFil (fun _ => 0) (-1) 60)))), (b3_v4, .inr (5, [.ref b3_v5, .ref b3_v15])), (b3_v5, .inr (3, [.ref b3_v6])), (b3_v6, .inl (cJ, 60, .inr (.inl (fFil (fun _ => 0) (-1) 60)))), (b3_v7, .inr (3, [.ref b3_v8])), (b3_v8, .inl (cJ, 60, .inr (.inl (fFil (fun _ => 0) (-1) 60))))] H := hP
  have hD : va_D (va_A [(h0, .inr (6, [.null, .null, .null, .null, .int 0, .int 0, .int 0, .int 0]))] s.heap.size) [(h0, .inr (6, [.ref q5, .ref q16, .null, .null, .int 0, .int 0, .int 0, .int 0])), (q5, .inr (1, [.ref b1_v1, .int 0, .ref b1_v3, .ref b1_v5, .ref b1_v7, .ref b1_v9])), (b1_v1, .inr (3, [.ref b1_v2])), (b1_v2, .inl (cJ, 12, .inr (.inl (fun _ => 0)))), (b1_v3, .inr (3, [.ref b1_v4])), (b1_v4, .inl (cJ, 4, .inr (.inl (fun _ => 0)))), (b1_v5, .inr (3, [.ref b1_v6])), (b1_v6, .inl (cJ, 4, .inr (.inl (fun _ => 0)))), (b1_v7, .inr (3, [.ref b1_v8])), (b1_v8, .inl (cJ, 4, .inr (.inl (fun _ => 0)))), (b1_v9, .inr (3, [.ref b1_v10])), (b1_v10, .inl (cJ, 4, .inr (.inl (fun _ => 0)))), (q16, .inr (0, [.ref b2_v1, .ref b2_v2, .int 0])), (q27, .inr (2, [.ref b3_v1, .ref b3_v4, .ref b3_v9, .ref b3_v10, .ref b3_v11, .ref b3_v12, .ref b3_v7, .ref b3_v13, .int 0, .int 0, .int 0, .int 0, .int 0])), (b3_v1, .inr (5, [.ref b3_v2, .ref b3_v14])), (b3_v2, .inr (3, [.ref b3_v3])), (b3_v3, .inl (cJ, 60, .inr (.inl (fFil (fun _ => 0) (-1) 60)))), (b3_v4, .inr (5, [.ref b3_v5, .ref b3_v15])), (b3_v5, .inr (3, [.ref b3_v6])), (b3_v6, .inl (cJ, 60, .inr (.inl (fFil (fun _ => 0) (-1) 60)))), (b3_v7, .inr (3, [.ref b3_v8])), (b3_v8, .inl (cJ, 60, .inr (.inl (fFil (fun _ => 0) (-1) 60))))] := hD
  refine W.widen (k := 39) (n := 626) (by omega) (by omega) ?_
  refine va_putF (D := D) (ci := 6) (v := .ref q27) (ty := .object "Shingletrack$Platter") (C := RX8) (T := TX8) (N := 8) hx hb hts (by decide +kernel) tyX8 tyX8_ok nmX8 hown hK hP hD hS 0 rfl rfl 2 (by decide) (hts (.fieldLink RX8 26 "Shingletrack" "platter" "LShingletrack$Platter;") (by decide +kernel)) (fun _ h9 => h9) rfl hin rfl (by decide +kernel) rfl rfl (Nat.le_of_ble_eq_true rfl) dX8_init_34 (fun H locs hP hD hS => ?_)
  have hP : va_P D vwCl [(h0, .inr (6, [.ref q5, .ref q16, .ref q27, .null, .int 0, .int 0, .int 0, .int 0])), (q5, .inr (1, [.ref b1_v1, .int 0, .ref b1_v3, .ref b1_v5, .ref b1_v7, .ref b1_v9])), (b1_v1, .inr (3, [.ref b1_v2])), (b1_v2, .inl (cJ, 12, .inr (.inl (fun _ => 0)))), (b1_v3, .inr (3, [.ref b1_v4])), (b1_v4, .inl (cJ, 4, .inr (.inl (fun _ => 0)))), (b1_v5, .inr (3, [.ref b1_v6])), (b1_v6, .inl (cJ, 4, .inr (.inl (fun _ => 0)))), (b1_v7, .inr (3, [.ref b1_v8])), (b1_v8, .inl (cJ, 4, .inr (.inl (fun _ => 0)))), (b1_v9, .inr (3, [.ref b1_v10])), (b1_v10, .inl (cJ, 4, .inr (.inl (fun _ => 0)))), (q16, .inr (0, [.ref b2_v1, .ref b2_v2, .int 0])), (q27, .inr (2, [.ref b3_v1, .ref b3_v4, .ref b3_v9, .ref b3_v10, .ref b3_v11, .ref b3_v12, .ref b3_v7, .ref b3_v13, .int 0, .int 0, .int 0, .int 0, .int 0])), (b3_v1, .inr (5, [.ref b3_v2, .ref b3_v14])), (b3_v2, .inr (3, [.ref b3_v3])), (b3_v3, .inl (cJ, 60, .inr (.inl (fFil (fun _ => 0) (-1) 60)))), (b3_v4, .inr (5, [.ref b3_v5, .ref b3_v15])), (b3_v5, .inr (3, [.ref b3_v6])), (b3_v6, .inl (cJ, 60, .inr (.inl (fFil (fun _ => 0) (-1) 60)))), (b3_v7, .inr (3, [.ref b3_v8])), (b3_v8, .inl (cJ, 60, .inr (.inl (fFil (fun _ => 0) (-1) 60))))] H := hP
  have hD : va_D (va_A [(h0, .inr (6, [.null, .null, .null, .null, .int 0, .int 0, .int 0, .int 0]))] s.heap.size) [(h0, .inr (6, [.ref q5, .ref q16, .ref q27, .null, .int 0, .int 0, .int 0, .int 0])), (q5, .inr (1, [.ref b1_v1, .int 0, .ref b1_v3, .ref b1_v5, .ref b1_v7, .ref b1_v9])), (b1_v1, .inr (3, [.ref b1_v2])), (b1_v2, .inl (cJ, 12, .inr (.inl (fun _ => 0)))), (b1_v3, .inr (3, [.ref b1_v4])), (b1_v4, .inl (cJ, 4, .inr (.inl (fun _ => 0)))), (b1_v5, .inr (3, [.ref b1_v6])), (b1_v6, .inl (cJ, 4, .inr (.inl (fun _ => 0)))), (b1_v7, .inr (3, [.ref b1_v8])), (b1_v8, .inl (cJ, 4, .inr (.inl (fun _ => 0)))), (b1_v9, .inr (3, [.ref b1_v10])), (b1_v10, .inl (cJ, 4, .inr (.inl (fun _ => 0)))), (q16, .inr (0, [.ref b2_v1, .ref b2_v2, .int 0])), (q27, .inr (2, [.ref b3_v1, .ref b3_v4, .ref b3_v9, .ref b3_v10, .ref b3_v11, .ref b3_v12, .ref b3_v7, .ref b3_v13, .int 0, .int 0, .int 0, .int 0, .int 0])), (b3_v1, .inr (5, [.ref b3_v2, .ref b3_v14])), (b3_v2, .inr (3, [.ref b3_v3])), (b3_v3, .inl (cJ, 60, .inr (.inl (fFil (fun _ => 0) (-1) 60)))), (b3_v4, .inr (5, [.ref b3_v5, .ref b3_v15])), (b3_v5, .inr (3, [.ref b3_v6])), (b3_v6, .inl (cJ, 60, .inr (.inl (fFil (fun _ => 0) (-1) 60)))), (b3_v7, .inr (3, [.ref b3_v8])), (b3_v8, .inl (cJ, 60, .inr (.inl (fFil (fun _ => 0) (-1) 60))))] := hD
  refine lv_aload_n hx hb dX8_init_37 rfl (lv_at hl 0 rfl) ?_
  refine va_new (ci := 4) (fs := [.null, .null, .int 0, .int 0, .int 0, .int 0, .int 0]) (C := RX5) (T := TX5) (N := 7) hx hb hts (by decide +kernel) tyX5 tyX5_ok hown (hts (.classLink RX8 30 RX5) (by decide +kernel)) (hts (.instantiable RX5 7) (by decide +kernel)) (hts (.initialized RX5) (by decide +kernel)) hK hP hD hS hA rfl (fun j hj => by rcases (show j = 0 ∨ j = 1 ∨ j = 2 ∨ j = 3 ∨ j = 4 ∨ j = 5 ∨ j = 6 by omega) with rfl | rfl | rfl | rfl | rfl | rfl | rfl <;> rfl) (Nat.le_of_ble_eq_true rfl) (Nat.le_of_ble_eq_true rfl) dX8_init_38 (fun q38 H hP hD hS => ?_)
  have hP : va_P D vwCl [(h0, .inr (6, [.ref q5, .ref q16, .ref q27, .null, .int 0, .int 0, .int 0, .int 0])), (q5, .inr (1, [.ref b1_v1, .int 0, .ref b1_v3, .ref b1_v5, .ref b1_v7, .ref b1_v9])), (b1_v1, .inr (3, [.ref b1_v2])), (b1_v2, .inl (cJ, 12, .inr (.inl (fun _ => 0)))), (b1_v3, .inr (3, [.ref b1_v4])), (b1_v4, .inl (cJ, 4, .inr (.inl (fun _ => 0)))), (b1_v5, .inr (3, [.ref b1_v6])), (b1_v6, .inl (cJ, 4, .inr (.inl (fun _ => 0)))), (b1_v7, .inr (3, [.ref b1_v8])), (b1_v8, .inl (cJ, 4, .inr (.inl (fun _ => 0)))), (b1_v9, .inr (3, [.ref b1_v10])), (b1_v10, .inl (cJ, 4, .inr (.inl (fun _ => 0)))), (q16, .inr (0, [.ref b2_v1, .ref b2_v2, .int 0])), (q27, .inr (2, [.ref b3_v1, .ref b3_v4, .ref b3_v9, .ref b3_v10, .ref b3_v11, .ref b3_v12, .ref b3_v7, .ref b3_v13, .int 0, .int 0, .int 0, .int 0, .int 0])), (b3_v1, .inr (5, [.ref b3_v2, .ref b3_v14])), (b3_v2, .inr (3, [.ref b3_v3])), (b3_v3, .inl (cJ, 60, .inr (.inl (fFil (fun _ => 0) (-1) 60)))), (b3_v4, .inr (5, [.ref b3_v5, .ref b3_v15])), (b3_v5, .inr (3, [.ref b3_v6])), (b3_v6, .inl (cJ, 60, .inr (.inl (fFil (fun _ => 0) (-1) 60)))), (b3_v7, .inr (3, [.ref b3_v8])), (b3_v8, .inl (cJ, 60, .inr (.inl (fFil (fun _ => 0) (-1) 60)))), (q38, .inr (4, [.null, .null, .int 0, .int 0, .int 0, .int 0, .int 0]))] H := hP
  have hD : va_D (va_A [(h0, .inr (6, [.null, .null, .null, .null, .int 0, .int 0, .int 0, .int 0]))] s.heap.size) [(h0, .inr (6, [.ref q5, .ref q16, .ref q27, .null, .int 0, .int 0, .int 0, .int 0])), (q5, .inr (1, [.ref b1_v1, .int 0, .ref b1_v3, .ref b1_v5, .ref b1_v7, .ref b1_v9])), (b1_v1, .inr (3, [.ref b1_v2])), (b1_v2, .inl (cJ, 12, .inr (.inl (fun _ => 0)))), (b1_v3, .inr (3, [.ref b1_v4])), (b1_v4, .inl (cJ, 4, .inr (.inl (fun _ => 0)))), (b1_v5, .inr (3, [.ref b1_v6])), (b1_v6, .inl (cJ, 4, .inr (.inl (fun _ => 0)))), (b1_v7, .inr (3, [.ref b1_v8])), (b1_v8, .inl (cJ, 4, .inr (.inl (fun _ => 0)))), (b1_v9, .inr (3, [.ref b1_v10])), (b1_v10, .inl (cJ, 4, .inr (.inl (fun _ => 0)))), (q16, .inr (0, [.ref b2_v1, .ref b2_v2, .int 0])), (q27, .inr (2, [.ref b3_v1, .ref b3_v4, .ref b3_v9, .ref b3_v10, .ref b3_v11, .ref b3_v12, .ref b3_v7, .ref b3_v13, .int 0, .int 0, .int 0, .int 0, .int 0])), (b3_v1, .inr (5, [.ref b3_v2, .ref b3_v14])), (b3_v2, .inr (3, [.ref b3_v3])), (b3_v3, .inl (cJ, 60, .inr (.inl (fFil (fun _ => 0) (-1) 60)))), (b3_v4, .inr (5, [.ref b3_v5, .ref b3_v15])), (b3_v5, .inr (3, [.ref b3_v6])), (b3_v6, .inl (cJ, 60, .inr (.inl (fFil (fun _ => 0) (-1) 60)))), (b3_v7, .inr (3, [.ref b3_v8])), (b3_v8, .inl (cJ, 60, .inr (.inl (fFil (fun _ => 0) (-1) 60)))), (q38, .inr (4, [.null, .null, .int 0, .int 0, .int 0, .int 0, .int 0]))] := hD
  refine W.widen (k := 40) (n := 633) (by omega) (by omega) ?_
  refine lv_dup hx hb dX8_init_41 rfl ?_
  refine nu_callvN (As := []) (rest := [.ref q38, .ref h0]) (wr := [(h0, .inr (6, [.ref q5, .ref q16, .ref q27, .null, .int 0, .int 0, .int 0, .int 0])), (q5, .inr (1, [.ref b1_v1, .int 0, .ref b1_v3, .ref b1_v5, .ref b1_v7, .ref b1_v9])), (b1_v1, .inr (3, [.ref b1_v2])), (b1_v2, .inl (cJ, 12, .inr (.inl (fun _ => 0)))), (b1_v3, .inr (3, [.ref b1_v4])), (b1_v4, .inl (cJ, 4, .inr (.inl (fun _ => 0)))), (b1_v5, .inr (3, [.ref b1_v6])), (b1_v6, .inl (cJ, 4, .inr (.inl (fun _ => 0)))), (b1_v7, .inr (3, [.ref b1_v8])), (b1_v8, .inl (cJ, 4, .inr (.inl (fun _ => 0)))), (b1_v9, .inr (3, [.ref b1_v10])), (b1_v10, .inl (cJ, 4, .inr (.inl (fun _ => 0)))), (q16, .inr (0, [.ref b2_v1, .ref b2_v2, .int 0])), (q27, .inr (2, [.ref b3_v1, .ref b3_v4, .ref b3_v9, .ref b3_v10, .ref b3_v11, .ref b3_v12, .ref b3_v7, .ref b3_v13, .int 0, .int 0, .int 0, .int 0, .int 0])), (b3_v1, .inr (5, [.ref b3_v2, .ref b3_v14])), (b3_v2, .inr (3, [.ref b3_v3])), (b3_v3, .inl (cJ, 60, .inr (.inl (fFil (fun _ => 0) (-1) 60)))), (b3_v4, .inr (5, [.ref b3_v5, .ref b3_v15])), (b3_v5, .inr (3, [.ref b3_v6])), (b3_v6, .inl (cJ, 60, .inr (.inl (fFil (fun _ => 0) (-1) 60)))), (b3_v7, .inr (3, [.ref b3_v8])), (b3_v8, .inl (cJ, 60, .inr (.inl (fFil (fun _ => 0) (-1) 60))))]) (host := "Shingletrack") ⟨hx, hb, hml, hown, hts⟩ (c_X5_init l D cJ q38) ⟨va_cnB 0 hts gX8_init_X5_init_n32 rfl rfl rfl hN.2.2 (hts (.initialized RX5) (by decide +kernel)) (by decide +kernel) ⟨(Nat.le_of_ble_eq_true rfl), (Nat.le_of_ble_eq_true rfl)⟩, rfl, hts (.instanceMethod yX5_init) (by decide +kernel)⟩ rfl hl.1 (lv_room (Nat.le_of_ble_eq_true rfl)) dX8_init_42 ⟨(Nat.le_of_ble_eq_true rfl), (Nat.le_of_ble_eq_true rfl)⟩ hS hA rfl hK hP hD [22] [0, 1, 2, 3, 4, 5, 6, 7, 8, 9, 10, 11, 12, 13, 14, 15, 16, 17, 18, 19, 20, 21] rfl rfl (by decide) rfl (by decide) (by decide) (fun u H locs hw hP hD hS => ?_)
  obtain ⟨b4_v1, b4_v2, rfl⟩ := hw
  have hP : va_P D vwCl [(h0, .inr (6, [.ref q5, .ref q16, .ref q27, .null, .int 0, .int 0, .int 0, .int 0])), (q5, .inr (1, [.ref b1_v1, .int 0, .ref b1_v3, .ref b1_v5, .ref b1_v7, .ref b1_v9])), (b1_v1, .inr (3, [.ref b1_v2])), (b1_v2, .inl (cJ, 12, .inr (.inl (fun _ => 0)))), (b1_v3, .inr (3, [.ref b1_v4])), (b1_v4, .inl (cJ, 4, .inr (.inl (fun _ => 0)))), (b1_v5, .inr (3, [.ref b1_v6])), (b1_v6, .inl (cJ, 4, .inr (.inl (fun _ => 0)))), (b1_v7, .inr (3, [.ref b1_v8])), (b1_v8, .inl (cJ, 4, .inr (.inl (fun _ => 0)))), (b1_v9, .inr (3, [.ref b1_v10])), (b1_v10, .inl (cJ, 4, .inr (.inl (fun _ => 0)))), (q16, .inr (0, [.ref b2_v1, .ref b2_v2, .int 0])), (q27, .inr (2, [.ref b3_v1, .ref b3_v4, .ref b3_v9, .ref b3_v10, .ref b3_v11, .ref b3_v12, .ref b3_v7, .ref b3_v13, .int 0, .int 0, .int 0, .int 0, .int 0])), (b3_v1, .inr (5, [.ref b3_v2, .ref b3_v14])), (b3_v2, .inr (3, [.ref b3_v3])), (b3_v3, .inl (cJ, 60, .inr (.inl (fFil (fun _ => 0) (-1) 60)))), (b3_v4, .inr (5, [.ref b3_v5, .ref b3_v15])), (b3_v5, .inr (3, [.ref b3_v6])), (b3_v6, .inl (cJ, 60, .inr (.inl (fFil (fun _ => 0) (-1) 60)))), (b3_v7, .inr (3, [.ref b3_v8])), (b3_v8, .inl (cJ, 60, .inr (.inl (fFil (fun _ => 0) (-1) 60)))), (q38, .inr (4, [.ref b4_v1, .ref b4_v2, .int 0, .int 0, .int 0, .int 0, .int 0]))] H := hP
  have hD : va_D (va_A [(h0, .inr (6, [.null, .null, .null, .null, .int 0, .int 0, .int 0, .int 0]))] s.heap.size) [(h0, .inr (6, [.ref q5, .ref q16, .ref q27, .null, .int 0, .int 0, .int 0, .int 0])), (q5, .inr (1, [.ref b1_v1, .int 0, .ref b1_v3, .ref b1_v5, .ref b1_v7, .ref b1_v9])), (b1_v1, .inr (3, [.ref b1_v2])), (b1_v2, .inl (cJ, 12, .inr (.inl (fun _ => 0)))), (b1_v3, .inr (3, [.ref b1_v4])), (b1_v4, .inl (cJ, 4, .inr (.inl (fun _ => 0)))), (b1_v5, .inr (3, [.ref b1_v6])), (b1_v6, .inl (cJ, 4, .inr (.inl (fun _ => 0)))), (b1_v7, .inr (3, [.ref b1_v8])), (b1_v8, .inl (cJ, 4, .inr (.inl (fun _ => 0)))), (b1_v9, .inr (3, [.ref b1_v10])), (b1_v10, .inl (cJ, 4, .inr (.inl (fun _ => 0)))), (q16, .inr (0, [.ref b2_v1, .ref b2_v2, .int 0])), (q27, .inr (2, [.ref b3_v1, .ref b3_v4, .ref b3_v9, .ref b3_v10, .ref b3_v11, .ref b3_v12, .ref b3_v7, .ref b3_v13, .int 0, .int 0, .int 0, .int 0, .int 0])), (b3_v1, .inr (5, [.ref b3_v2, .ref b3_v14])), (b3_v2, .inr (3, [.ref b3_v3])), (b3_v3, .inl (cJ, 60, .inr (.inl (fFil (fun _ => 0) (-1) 60)))), (b3_v4, .inr (5, [.ref b3_v5, .ref b3_v15])), (b3_v5, .inr (3, [.ref b3_v6])), (b3_v6, .inl (cJ, 60, .inr (.inl (fFil (fun _ => 0) (-1) 60)))), (b3_v7, .inr (3, [.ref b3_v8])), (b3_v8, .inl (cJ, 60, .inr (.inl (fFil (fun _ => 0) (-1) 60)))), (q38, .inr (4, [.ref b4_v1, .ref b4_v2, .int 0, .int 0, .int 0, .int 0, .int 0]))] := hD
  refine W.widen (k := 44) (n := 651) (by omega) (by omega) ?_
  refine va_putF (D := D) (ci := 6) (v := .ref q38) (ty := .object "Shingletrack$Seeks") (C := RX8) (T := TX8) (N := 8) hx hb hts (by decide +kernel) tyX8 tyX8_ok nmX8 hown hK hP hD hS 0 rfl rfl 3 (by decide) (hts (.fieldLink RX8 33 "Shingletrack" "seeks" "LShingletrack$Seeks;") (by decide +kernel)) (fun _ h9 => h9) rfl hin rfl (by decide +kernel) rfl rfl (Nat.le_of_ble_eq_true rfl) dX8_init_45 (fun H locs hP hD hS => ?_)
  have hP : va_P D vwCl [(h0, .inr (6, [.ref q5, .ref q16, .ref q27, .ref q38, .int 0, .int 0, .int 0, .int 0])), (q5, .inr (1, [.ref b1_v1, .int 0, .ref b1_v3, .ref b1_v5, .ref b1_v7, .ref b1_v9])), (b1_v1, .inr (3, [.ref b1_v2])), (b1_v2, .inl (cJ, 12, .inr (.inl (fun _ => 0)))), (b1_v3, .inr (3, [.ref b1_v4])), (b1_v4, .inl (cJ, 4, .inr (.inl (fun _ => 0)))), (b1_v5, .inr (3, [.ref b1_v6])), (b1_v6, .inl (cJ, 4, .inr (.inl (fun _ => 0)))), (b1_v7, .inr (3, [.ref b1_v8])), (b1_v8, .inl (cJ, 4, .inr (.inl (fun _ => 0)))), (b1_v9, .inr (3, [.ref b1_v10])), (b1_v10, .inl (cJ, 4, .inr (.inl (fun _ => 0)))), (q16, .inr (0, [.ref b2_v1, .ref b2_v2, .int 0])), (q27, .inr (2, [.ref b3_v1, .ref b3_v4, .ref b3_v9, .ref b3_v10, .ref b3_v11, .ref b3_v12, .ref b3_v7, .ref b3_v13, .int 0, .int 0, .int 0, .int 0, .int 0])), (b3_v1, .inr (5, [.ref b3_v2, .ref b3_v14])), (b3_v2, .inr (3, [.ref b3_v3])), (b3_v3, .inl (cJ, 60, .inr (.inl (fFil (fun _ => 0) (-1) 60)))), (b3_v4, .inr (5, [.ref b3_v5, .ref b3_v15])), (b3_v5, .inr (3, [.ref b3_v6])), (b3_v6, .inl (cJ, 60, .inr (.inl (fFil (fun _ => 0) (-1) 60)))), (b3_v7, .inr (3, [.ref b3_v8])), (b3_v8, .inl (cJ, 60, .inr (.inl (fFil (fun _ => 0) (-1) 60)))), (q38, .inr (4, [.ref b4_v1, .ref b4_v2, .int 0, .int 0, .int 0, .int 0, .int 0]))] H := hP
  have hD : va_D (va_A [(h0, .inr (6, [.null, .null, .null, .null, .int 0, .int 0, .int 0, .int 0]))] s.heap.size) [(h0, .inr (6, [.ref q5, .ref q16, .ref q27, .ref q38, .int 0, .int 0, .int 0, .int 0])), (q5, .inr (1, [.ref b1_v1, .int 0, .ref b1_v3, .ref b1_v5, .ref b1_v7, .ref b1_v9])), (b1_v1, .inr (3, [.ref b1_v2])), (b1_v2, .inl (cJ, 12, .inr (.inl (fun _ => 0)))), (b1_v3, .inr (3, [.ref b1_v4])), (b1_v4, .inl (cJ, 4, .inr (.inl (fun _ => 0)))), (b1_v5, .inr (3, [.ref b1_v6])), (b1_v6, .inl (cJ, 4, .inr (.inl (fun _ => 0)))), (b1_v7, .inr (3, [.ref b1_v8])), (b1_v8, .inl (cJ, 4, .inr (.inl (fun _ => 0)))), (b1_v9, .inr (3, [.ref b1_v10])), (b1_v10, .inl (cJ, 4, .inr (.inl (fun _ => 0)))), (q16, .inr (0, [.ref b2_v1, .ref b2_v2, .int 0])), (q27, .inr (2, [.ref b3_v1, .ref b3_v4, .ref b3_v9, .ref b3_v10, .ref b3_v11, .ref b3_v12, .ref b3_v7, .ref b3_v13, .int 0, .int 0, .int 0, .int 0, .int 0])), (b3_v1, .inr (5, [.ref b3_v2, .ref b3_v14])), (b3_v2, .inr (3, [.ref b3_v3])), (b3_v3, .inl (cJ, 60, .inr (.inl (fFil (fun _ => 0) (-1) 60)))), (b3_v4, .inr (5, [.ref b3_v5, .ref b3_v15])), (b3_v5, .inr (3, [.ref b3_v6])), (b3_v6, .inl (cJ, 60, .inr (.inl (fFil (fun _ => 0) (-1) 60)))), (b3_v7, .inr (3, [.ref b3_v8])), (b3_v8, .inl (cJ, 60, .inr (.inl (fFil (fun _ => 0) (-1) 60)))), (q38, .inr (4, [.ref b4_v1, .ref b4_v2, .int 0, .int 0, .int 0, .int 0, .int 0]))] := hD
  refine lv_aload_n hx hb dX8_init_48 rfl (lv_at hl 0 rfl) ?_
  refine lv_iconst (v := 0) hx hb dX8_init_49 (by decide) ?_
  refine va_put (D := D) (ci := 6) (v := .int 0) (ty := .boolean) (C := RX8) (T := TX8) (N := 8) hx hb hts (by decide +kernel) tyX8 tyX8_ok nmX8 hown hK hP hD hS 0 rfl rfl 4 (by decide) (hts (.fieldLink RX8 37 "Shingletrack" "shocked" "Z") (by decide +kernel)) (fun _ h9 => h9) rfl (by decide +kernel) rfl rfl (Nat.le_of_ble_eq_true rfl) dX8_init_50 (fun H locs hP hD hS => ?_)
  have hP : va_P D vwCl [(h0, .inr (6, [.ref q5, .ref q16, .ref q27, .ref q38, .int 0, .int 0, .int 0, .int 0])), (q5, .inr (1, [.ref b1_v1, .int 0, .ref b1_v3, .ref b1_v5, .ref b1_v7, .ref b1_v9])), (b1_v1, .inr (3, [.ref b1_v2])), (b1_v2, .inl (cJ, 12, .inr (.inl (fun _ => 0)))), (b1_v3, .inr (3, [.ref b1_v4])), (b1_v4, .inl (cJ, 4, .inr (.inl (fun _ => 0)))), (b1_v5, .inr (3, [.ref b1_v6])), (b1_v6, .inl (cJ, 4, .inr (.inl (fun _ => 0)))), (b1_v7, .inr (3, [.ref b1_v8])), (b1_v8, .inl (cJ, 4, .inr (.inl (fun _ => 0)))), (b1_v9, .inr (3, [.ref b1_v10])), (b1_v10, .inl (cJ, 4, .inr (.inl (fun _ => 0)))), (q16, .inr (0, [.ref b2_v1, .ref b2_v2, .int 0])), (q27, .inr (2, [.ref b3_v1, .ref b3_v4, .ref b3_v9, .ref b3_v10, .ref b3_v11, .ref b3_v12, .ref b3_v7, .ref b3_v13, .int 0, .int 0, .int 0, .int 0, .int 0])), (b3_v1, .inr (5, [.ref b3_v2, .ref b3_v14])), (b3_v2, .inr (3, [.ref b3_v3])), (b3_v3, .inl (cJ, 60, .inr (.inl (fFil (fun _ => 0) (-1) 60)))), (b3_v4, .inr (5, [.ref b3_v5, .ref b3_v15])), (b3_v5, .inr (3, [.ref b3_v6])), (b3_v6, .inl (cJ, 60, .inr (.inl (fFil (fun _ => 0) (-1) 60)))), (b3_v7, .inr (3, [.ref b3_v8])), (b3_v8, .inl (cJ, 60, .inr (.inl (fFil (fun _ => 0) (-1) 60)))), (q38, .inr (4, [.ref b4_v1, .ref b4_v2, .int 0, .int 0, .int 0, .int 0, .int 0]))] H := hP
  have hD : va_D (va_A [(h0, .inr (6, [.null, .null, .null, .null, .int 0, .int 0, .int 0, .int 0]))] s.heap.size) [(h0, .inr (6, [.ref q5, .ref q16, .ref q27, .ref q38, .int 0, .int 0, .int 0, .int 0])), (q5, .inr (1, [.ref b1_v1, .int 0, .ref b1_v3, .ref b1_v5, .ref b1_v7, .ref b1_v9])), (b1_v1, .inr (3, [.ref b1_v2])), (b1_v2, .inl (cJ, 12, .inr (.inl (fun _ => 0)))), (b1_v3, .inr (3, [.ref b1_v4])), (b1_v4, .inl (cJ, 4, .inr (.inl (fun _ => 0)))), (b1_v5, .inr (3, [.ref b1_v6])), (b1_v6, .inl (cJ, 4, .inr (.inl (fun _ => 0)))), (b1_v7, .inr (3, [.ref b1_v8])), (b1_v8, .inl (cJ, 4, .inr (.inl (fun _ => 0)))), (b1_v9, .inr (3, [.ref b1_v10])), (b1_v10, .inl (cJ, 4, .inr (.inl (fun _ => 0)))), (q16, .inr (0, [.ref b2_v1, .ref b2_v2, .int 0])), (q27, .inr (2, [.ref b3_v1, .ref b3_v4, .ref b3_v9, .ref b3_v10, .ref b3_v11, .ref b3_v12, .ref b3_v7, .ref b3_v13, .int 0, .int 0, .int 0, .int 0, .int 0])), (b3_v1, .inr (5, [.ref b3_v2, .ref b3_v14])), (b3_v2, .inr (3, [.ref b3_v3])), (b3_v3, .inl (cJ, 60, .inr (.inl (fFil (fun _ => 0) (-1) 60)))), (b3_v4, .inr (5, [.ref b3_v5, .ref b3_v15])), (b3_v5, .inr (3, [.ref b3_v6])), (b3_v6, .inl (cJ, 60, .inr (.inl (fFil (fun _ => 0) (-1) 60)))), (b3_v7, .inr (3, [.ref b3_v8])), (b3_v8, .inl (cJ, 60, .inr (.inl (fFil (fun _ => 0) (-1) 60)))), (q38, .inr (4, [.ref b4_v1, .ref b4_v2, .int 0, .int 0, .int 0, .int 0, .int 0]))] := hD
  refine lv_aload_n hx hb dX8_init_53 rfl (lv_at hl 0 rfl) ?_
  refine lv_bipush (v := 20) hx hb dX8_init_54 (by decide) ?_
  refine va_put (D := D) (ci := 6) (v := .int 20) (ty := .int) (C := RX8) (T := TX8) (N := 8) hx hb hts (by decide +kernel) tyX8 tyX8_ok nmX8 hown hK hP hD hS 0 rfl rfl 5 (by decide) (hts (.fieldLink RX8 41 "Shingletrack" "warmth" "I") (by decide +kernel)) (fun _ h9 => h9) rfl (by decide +kernel) rfl rfl (Nat.le_of_ble_eq_true rfl) dX8_init_56 (fun H locs hP hD hS => ?_)
  have hP : va_P D vwCl [(h0, .inr (6, [.ref q5, .ref q16, .ref q27, .ref q38, .int 0, .int 20, .int 0, .int 0])), (q5, .inr (1, [.ref b1_v1, .int 0, .ref b1_v3, .ref b1_v5, .ref b1_v7, .ref b1_v9])), (b1_v1, .inr (3, [.ref b1_v2])), (b1_v2, .inl (cJ, 12, .inr (.inl (fun _ => 0)))), (b1_v3, .inr (3, [.ref b1_v4])), (b1_v4, .inl (cJ, 4, .inr (.inl (fun _ => 0)))), (b1_v5, .inr (3, [.ref b1_v6])), (b1_v6, .inl (cJ, 4, .inr (.inl (fun _ => 0)))), (b1_v7, .inr (3, [.ref b1_v8])), (b1_v8, .inl (cJ, 4, .inr (.inl (fun _ => 0)))), (b1_v9, .inr (3, [.ref b1_v10])), (b1_v10, .inl (cJ, 4, .inr (.inl (fun _ => 0)))), (q16, .inr (0, [.ref b2_v1, .ref b2_v2, .int 0])), (q27, .inr (2, [.ref b3_v1, .ref b3_v4, .ref b3_v9, .ref b3_v10, .ref b3_v11, .ref b3_v12, .ref b3_v7, .ref b3_v13, .int 0, .int 0, .int 0, .int 0, .int 0])), (b3_v1, .inr (5, [.ref b3_v2, .ref b3_v14])), (b3_v2, .inr (3, [.ref b3_v3])), (b3_v3, .inl (cJ, 60, .inr (.inl (fFil (fun _ => 0) (-1) 60)))), (b3_v4, .inr (5, [.ref b3_v5, .ref b3_v15])), (b3_v5, .inr (3, [.ref b3_v6])), (b3_v6, .inl (cJ, 60, .inr (.inl (fFil (fun _ => 0) (-1) 60)))), (b3_v7, .inr (3, [.ref b3_v8])), (b3_v8, .inl (cJ, 60, .inr (.inl (fFil (fun _ => 0) (-1) 60)))), (q38, .inr (4, [.ref b4_v1, .ref b4_v2, .int 0, .int 0, .int 0, .int 0, .int 0]))] H := hP
  have hD : va_D (va_A [(h0, .inr (6, [.null, .null, .null, .null, .int 0, .int 0, .int 0, .int 0]))] s.heap.size) [(h0, .inr (6, [.ref q5, .ref q16, .ref q27, .ref q38, .int 0, .int 20, .int 0, .int 0])), (q5, .inr (1, [.ref b1_v1, .int 0, .ref b1_v3, .ref b1_v5, .ref b1_v7, .ref b1_v9])), (b1_v1, .inr (3, [.ref b1_v2])), (b1_v2, .inl (cJ, 12, .inr (.inl (fun _ => 0)))), (b1_v3, .inr (3, [.ref b1_v4])), (b1_v4, .inl (cJ, 4, .inr (.inl (fun _ => 0)))), (b1_v5, .inr (3, [.ref b1_v6])), (b1_v6, .inl (cJ, 4, .inr (.inl (fun _ => 0)))), (b1_v7, .inr (3, [.ref b1_v8])), (b1_v8, .inl (cJ, 4, .inr (.inl (fun _ => 0)))), (b1_v9, .inr (3, [.ref b1_v10])), (b1_v10, .inl (cJ, 4, .inr (.inl (fun _ => 0)))), (q16, .inr (0, [.ref b2_v1, .ref b2_v2, .int 0])), (q27, .inr (2, [.ref b3_v1, .ref b3_v4, .ref b3_v9, .ref b3_v10, .ref b3_v11, .ref b3_v12, .ref b3_v7, .ref b3_v13, .int 0, .int 0, .int 0, .int 0, .int 0])), (b3_v1, .inr (5, [.ref b3_v2, .ref b3_v14])), (b3_v2, .inr (3, [.ref b3_v3])), (b3_v3, .inl (cJ, 60, .inr (.inl (fFil (fun _ => 0) (-1) 60)))), (b3_v4, .inr (5, [.ref b3_v5, .ref b3_v15])), (b3_v5, .inr (3, [.ref b3_v6])), (b3_v6, .inl (cJ, 60, .inr (.inl (fFil (fun _ => 0) (-1) 60)))), (b3_v7, .inr (3, [.ref b3_v8])), (b3_v8, .inl (cJ, 60, .inr (.inl (fFil (fun _ => 0) (-1) 60)))), (q38, .inr (4, [.ref b4_v1, .ref b4_v2, .int 0, .int 0, .int 0, .int 0, .int 0]))] := hD
  refine lv_aload_n hx hb dX8_init_59 rfl (lv_at hl 0 rfl) ?_
  refine lv_iconst (v := 0) hx hb dX8_init_60 (by decide) ?_
  refine va_put (D := D) (ci := 6) (v := .int 0) (ty := .int) (C := RX8) (T := TX8) (N := 8) hx hb hts (by decide +kernel) tyX8 tyX8_ok nmX8 hown hK hP hD hS 0 rfl rfl 6 (by decide) (hts (.fieldLink RX8 45 "Shingletrack" "sectorsWritten" "I") (by decide +kernel)) (fun _ h9 => h9) rfl (by decide +kernel) rfl rfl (Nat.le_of_ble_eq_true rfl) dX8_init_61 (fun H locs hP hD hS => ?_)
  have hP : va_P D vwCl [(h0, .inr (6, [.ref q5, .ref q16, .ref q27, .ref q38, .int 0, .int 20, .int 0, .int 0])), (q5, .inr (1, [.ref b1_v1, .int 0, .ref b1_v3, .ref b1_v5, .ref b1_v7, .ref b1_v9])), (b1_v1, .inr (3, [.ref b1_v2])), (b1_v2, .inl (cJ, 12, .inr (.inl (fun _ => 0)))), (b1_v3, .inr (3, [.ref b1_v4])), (b1_v4, .inl (cJ, 4, .inr (.inl (fun _ => 0)))), (b1_v5, .inr (3, [.ref b1_v6])), (b1_v6, .inl (cJ, 4, .inr (.inl (fun _ => 0)))), (b1_v7, .inr (3, [.ref b1_v8])), (b1_v8, .inl (cJ, 4, .inr (.inl (fun _ => 0)))), (b1_v9, .inr (3, [.ref b1_v10])), (b1_v10, .inl (cJ, 4, .inr (.inl (fun _ => 0)))), (q16, .inr (0, [.ref b2_v1, .ref b2_v2, .int 0])), (q27, .inr (2, [.ref b3_v1, .ref b3_v4, .ref b3_v9, .ref b3_v10, .ref b3_v11, .ref b3_v12, .ref b3_v7, .ref b3_v13, .int 0, .int 0, .int 0, .int 0, .int 0])), (b3_v1, .inr (5, [.ref b3_v2, .ref b3_v14])), (b3_v2, .inr (3, [.ref b3_v3])), (b3_v3, .inl (cJ, 60, .inr (.inl (fFil (fun _ => 0) (-1) 60)))), (b3_v4, .inr (5, [.ref b3_v5, .ref b3_v15])), (b3_v5, .inr (3, [.ref b3_v6])), (b3_v6, .inl (cJ, 60, .inr (.inl (fFil (fun _ => 0) (-1) 60)))), (b3_v7, .inr (3, [.ref b3_v8])), (b3_v8, .inl (cJ, 60, .inr (.inl (fFil (fun _ => 0) (-1) 60)))), (q38, .inr (4, [.ref b4_v1, .ref b4_v2, .int 0, .int 0, .int 0, .int 0, .int 0]))] H := hP
  have hD : va_D (va_A [(h0, .inr (6, [.null, .null, .null, .null, .int 0, .int 0, .int 0, .int 0]))] s.heap.size) [(h0, .inr (6, [.ref q5, .ref q16, .ref q27, .ref q38, .int 0, .int 20, .int 0, .int 0])), (q5, .inr (1, [.ref b1_v1, .int 0, .ref b1_v3, .ref b1_v5, .ref b1_v7, .ref b1_v9])), (b1_v1, .inr (3, [.ref b1_v2])), (b1_v2, .inl (cJ, 12, .inr (.inl (fun _ => 0)))), (b1_v3, .inr (3, [.ref b1_v4])), (b1_v4, .inl (cJ, 4, .inr (.inl (fun _ => 0)))), (b1_v5, .inr (3, [.ref b1_v6])), (b1_v6, .inl (cJ, 4, .inr (.inl (fun _ => 0)))), (b1_v7, .inr (3, [.ref b1_v8])), (b1_v8, .inl (cJ, 4, .inr (.inl (fun _ => 0)))), (b1_v9, .inr (3, [.ref b1_v10])), (b1_v10, .inl (cJ, 4, .inr (.inl (fun _ => 0)))), (q16, .inr (0, [.ref b2_v1, .ref b2_v2, .int 0])), (q27, .inr (2, [.ref b3_v1, .ref b3_v4, .ref b3_v9, .ref b3_v10, .ref b3_v11, .ref b3_v12, .ref b3_v7, .ref b3_v13, .int 0, .int 0, .int 0, .int 0, .int 0])), (b3_v1, .inr (5, [.ref b3_v2, .ref b3_v14])), (b3_v2, .inr (3, [.ref b3_v3])), (b3_v3, .inl (cJ, 60, .inr (.inl (fFil (fun _ => 0) (-1) 60)))), (b3_v4, .inr (5, [.ref b3_v5, .ref b3_v15])), (b3_v5, .inr (3, [.ref b3_v6])), (b3_v6, .inl (cJ, 60, .inr (.inl (fFil (fun _ => 0) (-1) 60)))), (b3_v7, .inr (3, [.ref b3_v8])), (b3_v8, .inl (cJ, 60, .inr (.inl (fFil (fun _ => 0) (-1) 60)))), (q38, .inr (4, [.ref b4_v1, .ref b4_v2, .int 0, .int 0, .int 0, .int 0, .int 0]))] := hD
  refine lv_aload_n hx hb dX8_init_64 rfl (lv_at hl 0 rfl) ?_
  refine lv_iconst (v := 0) hx hb dX8_init_65 (by decide) ?_
  refine va_put (D := D) (ci := 6) (v := .int 0) (ty := .int) (C := RX8) (T := TX8) (N := 8) hx hb hts (by decide +kernel) tyX8 tyX8_ok nmX8 hown hK hP hD hS 0 rfl rfl 7 (by decide) (hts (.fieldLink RX8 48 "Shingletrack" "readsAnswered" "I") (by decide +kernel)) (fun _ h9 => h9) rfl (by decide +kernel) rfl rfl (Nat.le_of_ble_eq_true rfl) dX8_init_66 (fun H locs hP hD hS => ?_)
  have hP : va_P D vwCl [(h0, .inr (6, [.ref q5, .ref q16, .ref q27, .ref q38, .int 0, .int 20, .int 0, .int 0])), (q5, .inr (1, [.ref b1_v1, .int 0, .ref b1_v3, .ref b1_v5, .ref b1_v7, .ref b1_v9])), (b1_v1, .inr (3, [.ref b1_v2])), (b1_v2, .inl (cJ, 12, .inr (.inl (fun _ => 0)))), (b1_v3, .inr (3, [.ref b1_v4])), (b1_v4, .inl (cJ, 4, .inr (.inl (fun _ => 0)))), (b1_v5, .inr (3, [.ref b1_v6])), (b1_v6, .inl (cJ, 4, .inr (.inl (fun _ => 0)))), (b1_v7, .inr (3, [.ref b1_v8])), (b1_v8, .inl (cJ, 4, .inr (.inl (fun _ => 0)))), (b1_v9, .inr (3, [.ref b1_v10])), (b1_v10, .inl (cJ, 4, .inr (.inl (fun _ => 0)))), (q16, .inr (0, [.ref b2_v1, .ref b2_v2, .int 0])), (q27, .inr (2, [.ref b3_v1, .ref b3_v4, .ref b3_v9, .ref b3_v10, .ref b3_v11, .ref b3_v12, .ref b3_v7, .ref b3_v13, .int 0, .int 0, .int 0, .int 0, .int 0])), (b3_v1, .inr (5, [.ref b3_v2, .ref b3_v14])), (b3_v2, .inr (3, [.ref b3_v3])), (b3_v3, .inl (cJ, 60, .inr (.inl (fFil (fun _ => 0) (-1) 60)))), (b3_v4, .inr (5, [.ref b3_v5, .ref b3_v15])), (b3_v5, .inr (3, [.ref b3_v6])), (b3_v6, .inl (cJ, 60, .inr (.inl (fFil (fun _ => 0) (-1) 60)))), (b3_v7, .inr (3, [.ref b3_v8])), (b3_v8, .inl (cJ, 60, .inr (.inl (fFil (fun _ => 0) (-1) 60)))), (q38, .inr (4, [.ref b4_v1, .ref b4_v2, .int 0, .int 0, .int 0, .int 0, .int 0]))] H := hP
  have hD : va_D (va_A [(h0, .inr (6, [.null, .null, .null, .null, .int 0, .int 0, .int 0, .int 0]))] s.heap.size) [(h0, .inr (6, [.ref q5, .ref q16, .ref q27, .ref q38, .int 0, .int 20, .int 0, .int 0])), (q5, .inr (1, [.ref b1_v1, .int 0, .ref b1_v3, .ref b1_v5, .ref b1_v7, .ref b1_v9])), (b1_v1, .inr (3, [.ref b1_v2])), (b1_v2, .inl (cJ, 12, .inr (.inl (fun _ => 0)))), (b1_v3, .inr (3, [.ref b1_v4])), (b1_v4, .inl (cJ, 4, .inr (.inl (fun _ => 0)))), (b1_v5, .inr (3, [.ref b1_v6])), (b1_v6, .inl (cJ, 4, .inr (.inl (fun _ => 0)))), (b1_v7, .inr (3, [.ref b1_v8])), (b1_v8, .inl (cJ, 4, .inr (.inl (fun _ => 0)))), (b1_v9, .inr (3, [.ref b1_v10])), (b1_v10, .inl (cJ, 4, .inr (.inl (fun _ => 0)))), (q16, .inr (0, [.ref b2_v1, .ref b2_v2, .int 0])), (q27, .inr (2, [.ref b3_v1, .ref b3_v4, .ref b3_v9, .ref b3_v10, .ref b3_v11, .ref b3_v12, .ref b3_v7, .ref b3_v13, .int 0, .int 0, .int 0, .int 0, .int 0])), (b3_v1, .inr (5, [.ref b3_v2, .ref b3_v14])), (b3_v2, .inr (3, [.ref b3_v3])), (b3_v3, .inl (cJ, 60, .inr (.inl (fFil (fun _ => 0) (-1) 60)))), (b3_v4, .inr (5, [.ref b3_v5, .ref b3_v15])), (b3_v5, .inr (3, [.ref b3_v6])), (b3_v6, .inl (cJ, 60, .inr (.inl (fFil (fun _ => 0) (-1) 60)))), (b3_v7, .inr (3, [.ref b3_v8])), (b3_v8, .inl (cJ, 60, .inr (.inl (fFil (fun _ => 0) (-1) 60)))), (q38, .inr (4, [.ref b4_v1, .ref b4_v2, .int 0, .int 0, .int 0, .int 0, .int 0]))] := hD
  have hP9 := hP.sub (ws' := [(h0, .inr (6, [.ref q5, .ref q16, .ref q27, .ref q38, .int 0, .int 20, .int 0, .int 0])), (q5, .inr (1, [.ref b1_v1, .int 0, .ref b1_v3, .ref b1_v5, .ref b1_v7, .ref b1_v9])), (b1_v1, .inr (3, [.ref b1_v2])), (b1_v2, .inl (cJ, 12, .inr (.inl (fun _ => 0)))), (b1_v3, .inr (3, [.ref b1_v4])), (b1_v4, .inl (cJ, 4, .inr (.inl (fun _ => 0)))), (b1_v5, .inr (3, [.ref b1_v6])), (b1_v6, .inl (cJ, 4, .inr (.inl (fun _ => 0)))), (b1_v7, .inr (3, [.ref b1_v8])), (b1_v8, .inl (cJ, 4, .inr (.inl (fun _ => 0)))), (b1_v9, .inr (3, [.ref b1_v10])), (b1_v10, .inl (cJ, 4, .inr (.inl (fun _ => 0)))), (q16, .inr (0, [.ref b2_v1, .ref b2_v2, .int 0])), (q27, .inr (2, [.ref b3_v1, .ref b3_v4, .ref b3_v9, .ref b3_v10, .ref b3_v11, .ref b3_v12, .ref b3_v7, .ref b3_v13, .int 0, .int 0, .int 0, .int 0, .int 0])), (b3_v1, .inr (5, [.ref b3_v2, .ref b3_v14])), (b3_v2, .inr (3, [.ref b3_v3])), (b3_v3, .inl (cJ, 60, .inr (.inl (fFil (fun _ => 0) (-1) 60)))), (b3_v4, .inr (5, [.ref b3_v5, .ref b3_v15])), (b3_v5, .inr (3, [.ref b3_v6])), (b3_v6, .inl (cJ, 60, .inr (.inl (fFil (fun _ => 0) (-1) 60)))), (b3_v7, .inr (3, [.ref b3_v8])), (b3_v8, .inl (cJ, 60, .inr (.inl (fFil (fun _ => 0) (-1) 60))))]) [0, 1, 2, 3, 4, 5, 6, 7, 8, 9, 10, 11, 12, 13, 14, 15, 16, 17, 18, 19, 20, 21] rfl
  have hD9 := hD.sub (ws' := [(h0, .inr (6, [.ref q5, .ref q16, .ref q27, .ref q38, .int 0, .int 20, .int 0, .int 0])), (q5, .inr (1, [.ref b1_v1, .int 0, .ref b1_v3, .ref b1_v5, .ref b1_v7, .ref b1_v9])), (b1_v1, .inr (3, [.ref b1_v2])), (b1_v2, .inl (cJ, 12, .inr (.inl (fun _ => 0)))), (b1_v3, .inr (3, [.ref b1_v4])), (b1_v4, .inl (cJ, 4, .inr (.inl (fun _ => 0)))), (b1_v5, .inr (3, [.ref b1_v6])), (b1_v6, .inl (cJ, 4, .inr (.inl (fun _ => 0)))), (b1_v7, .inr (3, [.ref b1_v8])), (b1_v8, .inl (cJ, 4, .inr (.inl (fun _ => 0)))), (b1_v9, .inr (3, [.ref b1_v10])), (b1_v10, .inl (cJ, 4, .inr (.inl (fun _ => 0)))), (q16, .inr (0, [.ref b2_v1, .ref b2_v2, .int 0])), (q27, .inr (2, [.ref b3_v1, .ref b3_v4, .ref b3_v9, .ref b3_v10, .ref b3_v11, .ref b3_v12, .ref b3_v7, .ref b3_v13, .int 0, .int 0, .int 0, .int 0, .int 0])), (b3_v1, .inr (5, [.ref b3_v2, .ref b3_v14])), (b3_v2, .inr (3, [.ref b3_v3])), (b3_v3, .inl (cJ, 60, .inr (.inl (fFil (fun _ => 0) (-1) 60)))), (b3_v4, .inr (5, [.ref b3_v5, .ref b3_v15])), (b3_v5, .inr (3, [.ref b3_v6])), (b3_v6, .inl (cJ, 60, .inr (.inl (fFil (fun _ => 0) (-1) 60)))), (b3_v7, .inr (3, [.ref b3_v8])), (b3_v8, .inl (cJ, 60, .inr (.inl (fFil (fun _ => 0) (-1) 60))))]) [0, 1, 2, 3, 4, 5, 6, 7, 8, 9, 10, 11, 12, 13, 14, 15, 16, 17, 18, 19, 20, 21] (by decide) rfl
  exact W.vret hx hb hr (fun t ht hW => ⟨⟨_, rfl, ⟨q5, b1_v1, b1_v2, b1_v3, b1_v4, b1_v5, b1_v6, b1_v7, b1_v8, b1_v9, b1_v10, q16, q27, b3_v1, b3_v2, b3_v3, b3_v4, b3_v5, b3_v6, b3_v7, b3_v8, q38, b2_v1, b2_v2, b3_v9, b3_v10, b3_v11, b3_v12, b3_v13, b3_v14, b3_v15, rfl⟩, (by rw [ht]; exact hP9), va_K.moved hW.alike hK, hD9⟩, hS.F ht⟩) hS.2.2 dX8_init_69
end
section
/-! The channel: its rows as functions, each of 4 numbers (the samples': 12) -/
def kOff (x : Int64) (st c : Nat) : Int64 := x - ((10 : Int32) * (nI c - (nI st >>> ((1 : Int32) &&& 31)))).toInt64
def kSq (x : Int64) (sq : Nat → Int64) (st c : Nat) : Int64 := fAt 4 sq (nI st) + kOff x st c * kOff x st c
def kNu (nu : Nat → Int64) (st c : Nat) : Int64 := (fAt 4 nu (nI st) <<< ((1 : Int32).toInt64 &&& 63)) ||| (nI c).toInt64
def kNx (st c : Nat) : Int32 := ((nI st &&& 1) <<< (1 &&& 31)) ||| nI c
def kIn (x : Int64) (sq nu : Nat → Int64) (st : Nat) : Nat → Nat → (Nat → Int64) → (Nat → Int64) → (Nat → Int64) × (Nat → Int64)
  | 0, _, ns, nn => (ns, nn)
  | n+1, c, ns, nn => if fBetter (kSq x sq st c) (kNu nu st c) (fAt 4 ns (kNx st c)) (fAt 4 nn (kNx st c)) = 0 then kIn x sq nu st n (c+1) ns nn else kIn x sq nu st n (c+1) (fPut 4 ns (kNx st c) (kSq x sq st c)) (fPut 4 nn (kNx st c) (kNu nu st c))
def kSt (x : Int64) (sq nu : Nat → Int64) : Nat → Nat → (Nat → Int64) → (Nat → Int64) → (Nat → Int64) × (Nat → Int64)
  | 0, _, ns, nn => (ns, nn)
  | n+1, k, ns, nn => kSt x sq nu n (k+1) (kIn x sq nu k 2 0 ns nn).1 (kIn x sq nu k 2 0 ns nn).2
def kCp (f : Nat → Int64) : Nat → Nat → (Nat → Int64) → (Nat → Int64)
  | 0, _, g => g
  | n+1, k, g => kCp f n (k+1) (fPut 4 g (nI k) (fAt 4 f (nI k)))
set_option maxHeartbeats 4000000 in
set_option maxRecDepth 100000 in
theorem c_X2_size (l : Launch) (D : va_G) (cJ : ClassId) (c0 a1 a3 a5 a7 a9 : Nat) (th : Int32) : rc_i l yX2_size wsX2_size ({ frames := 0, cells := 0, slots := 0, locals := 0 } : Room) [.ref c0] D cJ [(c0, .inr (1, [.ref a1, .int th, .ref a3, .ref a5, .ref a7, .ref a9]))] th := by
  intro H0
  refine Met.ofW (cc := cX2_size) (maxL := 1) (ret := (some .int)) (by decide) rfl ?_
  intro p e s m args below meth c s₁ B hml hv
  obtain ⟨rfl, rfl, hP, hK⟩ := hv
  have hx := B.exec
  have hb := B.bytes
  have hr := B.returns
  have hts := atoms_spec (ws := wsX2_size) B.pre
  have hown : s.vm.findClass RX2 = some m.cls := findClass_of_methodNamed B.named
  have hlocks := B.notSynchronized
  have hS : va_S (fun q => s.heap.size ≤ q) s.heap s.heap [] := va_S.rf
  have hA : ∀ q : Nat, s.heap.size ≤ q → (fun q : Nat => s.heap.size ≤ q) q := fun _ h => h
  have hl := lv_entry ([.ref c0]) (n := 1) (Nat.le_of_ble_eq_true rfl)
  rw [lg_entry_eq]
  generalize (lg_sl ([.ref c0]) ++ List.replicate (1 - (lg_sl ([.ref c0])).length) Slot.unset).toArray = ls at hl ⊢
  have hl : lv_has ls 1 [(0, .ref c0)] := hl
  refine lv_aload_n hx hb dX2_size_0 rfl (lv_at hl 0 rfl) ?_
  refine va_get (D := D) (ci := 1) (v := .int th) (C := RX2) (T := TX2) (N := 6) hx hb hts (by decide +kernel) hown hK hP 0 rfl rfl 1 (by decide) (hts (.fieldLink RX2 20 "Shingletrack$Channel" "samplesThere" "I") (by decide +kernel)) (fun _ h9 => h9) rfl dX2_size_1 ?_
  exact W.iret (v := th) hx hb hr (fun t ht hW => ⟨⟨th, (), rfl, rfl, ht⟩, hS.F ht⟩) hS.2.2 dX2_size_4
set_option maxHeartbeats 4000000 in
set_option maxRecDepth 100000 in
theorem c_X2_add (l : Launch) (D : va_G) (cJ : ClassId) (c0 a1 a2 a3 a5 a7 a9 : Nat) (th : Int32) (sa : Nat → Int64) (i : Int32) : wc_i l yX2_add wsX2_add ({ frames := 1, cells := 0, slots := 0, locals := 23 } : Room) [.ref c0, .int i] D cJ [(c0, .inr (1, [.ref a1, .int th, .ref a3, .ref a5, .ref a7, .ref a9])), (a1, .inr (3, [.ref a2])), (a2, .inl (cJ, 12, .inr (.inl sa)))] [(c0, .inr (1, [.ref a1, .int (th + 1), .ref a3, .ref a5, .ref a7, .ref a9])), (a1, .inr (3, [.ref a2])), (a2, .inl (cJ, 12, .inr (.inl (fPut 12 sa th i.toInt64))))] (th + 1) := by
  intro sz
  refine Met.ofW (cc := cX2_add) (maxL := 2) (ret := (some .int)) (by decide) rfl ?_
  intro p e s m args below meth c s₁ B hml hv
  obtain ⟨rfl, rfl, hP, hK, hD0⟩ := hv
  have hx := B.exec
  have hb := B.bytes
  have hr := B.returns
  have hts := atoms_spec (ws := wsX2_add) B.pre
  have hown : s.vm.findClass RX2 = some m.cls := findClass_of_methodNamed B.named
  have hlocks := B.notSynchronized
  have hS : va_S (va_A [(c0, .inr (1, [.ref a1, .int th, .ref a3, .ref a5, .ref a7, .ref a9])), (a1, .inr (3, [.ref a2])), (a2, .inl (cJ, 12, .inr (.inl sa)))] s.heap.size) s.heap s.heap [] := va_S.rf
  have hD := hD0.self (sz := s.heap.size)
  have hA : ∀ q : Nat, s.heap.size ≤ q → (va_A [(c0, .inr (1, [.ref a1, .int th, .ref a3, .ref a5, .ref a7, .ref a9])), (a1, .inr (3, [.ref a2])), (a2, .inl (cJ, 12, .inr (.inl sa)))] s.heap.size) q := fun _ h => Or.inr h
  have hl := lv_entry ([.ref c0, .int i]) (n := 2) (Nat.le_of_ble_eq_true rfl)
  rw [lg_entry_eq]
  generalize (lg_sl ([.ref c0, .int i]) ++ List.replicate (2 - (lg_sl ([.ref c0, .int i])).length) Slot.unset).toArray = ls at hl ⊢
  have hl : lv_has ls 2 [(0, .ref c0), (1, .int i)] := hl
  have hP : va_P D vwCl [(c0, .inr (1, [.ref a1, .int th, .ref a3, .ref a5, .ref a7, .ref a9])), (a1, .inr (3, [.ref a2])), (a2, .inl (cJ, 12, .inr (.inl sa)))] s.heap := hP
  refine lv_aload_n hx hb dX2_add_0 rfl (lv_at hl 0 rfl) ?_
  refine va_get (D := D) (ci := 1) (v := .ref a1) (C := RX2) (T := TX2) (N := 6) hx hb hts (by decide +kernel) hown hK hP 0 rfl rfl 0 (by decide) (hts (.fieldLink RX2 14 "Shingletrack$Channel" "samples" "LShingletrack$Row;") (by decide +kernel)) (fun _ h9 => h9) rfl dX2_add_1 ?_
  refine lv_aload_n hx hb dX2_add_4 rfl (lv_at hl 0 rfl) ?_
  refine va_get (D := D) (ci := 1) (v := .int th) (C := RX2) (T := TX2) (N := 6) hx hb hts (by decide +kernel) hown hK hP 0 rfl rfl 1 (by decide) (hts (.fieldLink RX2 20 "Shingletrack$Channel" "samplesThere" "I") (by decide +kernel)) (fun _ h9 => h9) rfl dX2_add_5 ?_
  refine lv_iload_n hx hb dX2_add_8 rfl (lv_at hl 1 rfl) ?_
  refine lv_i2l hx hb dX2_add_9 rfl ?_
  refine wu_callv (wr := [(c0, .inr (1, [.ref a1, .int th, .ref a3, .ref a5, .ref a7, .ref a9]))]) (wn := [(c0, .inr (1, [.ref a1, .int th, .ref a3, .ref a5, .ref a7, .ref a9])), (a1, .inr (3, [.ref a2])), (a2, .inl (cJ, 12, .inr (.inl (fPut 12 sa th i.toInt64))))]) (As := [.int th, .long i.toInt64]) (rest := []) ⟨hx, hb, hml, hown, hts⟩ (c_X4_put l D cJ a1 a2 12 (by decide) sa th i.toInt64) (cwV 2 hts gX2_add_X4_put rfl rfl rfl (by decide +kernel) ⟨(Nat.le_of_ble_eq_true rfl), (Nat.le_of_ble_eq_true rfl)⟩) (va_recv hK hP (ci := 3) (q0 := 1) rfl rfl) rfl hl.1 (lv_room (Nat.le_of_ble_eq_true rfl)) dX2_add_10 ⟨(Nat.le_of_ble_eq_true rfl), (Nat.le_of_ble_eq_true rfl)⟩ hS hA rfl hK hP hD [1, 2] [0] [0, 1, 2] rfl rfl (by decide) rfl (by decide) (by decide) rfl rfl (by decide) (fun H locs hP hD hS => ?_)
  refine lv_aload_n hx hb dX2_add_13 rfl (lv_at hl 0 rfl) ?_
  refine lv_dup hx hb dX2_add_14 rfl ?_
  refine va_get (D := D) (ci := 1) (v := .int th) (C := RX2) (T := TX2) (N := 6) hx hb hts (by decide +kernel) hown hK hP 0 rfl rfl 1 (by decide) (hts (.fieldLink RX2 20 "Shingletrack$Channel" "samplesThere" "I") (by decide +kernel)) (fun _ h9 => h9) rfl dX2_add_15 ?_
  refine lv_iconst (v := 1) hx hb dX2_add_18 (by decide) ?_
  refine lv_iadd hx hb dX2_add_19 ?_
  refine va_put (D := D) (ci := 1) (v := .int (th + 1)) (ty := .int) (C := RX2) (T := TX2) (N := 6) hx hb hts (by decide +kernel) tyX2 tyX2_ok nmX2 hown hK hP hD hS 0 rfl rfl 1 (by decide) (hts (.fieldLink RX2 20 "Shingletrack$Channel" "samplesThere" "I") (by decide +kernel)) (fun _ h9 => h9) rfl (by decide +kernel) rfl rfl (Nat.le_of_ble_eq_true rfl) dX2_add_20 (fun H locs hP hD hS => ?_)
  have hP : va_P D vwCl [(c0, .inr (1, [.ref a1, .int (th + 1), .ref a3, .ref a5, .ref a7, .ref a9])), (a1, .inr (3, [.ref a2])), (a2, .inl (cJ, 12, .inr (.inl (fPut 12 sa th i.toInt64))))] H := hP
  have hD : va_D (va_A [(c0, .inr (1, [.ref a1, .int th, .ref a3, .ref a5, .ref a7, .ref a9])), (a1, .inr (3, [.ref a2])), (a2, .inl (cJ, 12, .inr (.inl sa)))] s.heap.size) [(c0, .inr (1, [.ref a1, .int (th + 1), .ref a3, .ref a5, .ref a7, .ref a9])), (a1, .inr (3, [.ref a2])), (a2, .inl (cJ, 12, .inr (.inl (fPut 12 sa th i.toInt64))))] := hD
  refine lv_aload_n hx hb dX2_add_23 rfl (lv_at hl 0 rfl) ?_
  refine va_get (D := D) (ci := 1) (v := .int (th + 1)) (C := RX2) (T := TX2) (N := 6) hx hb hts (by decide +kernel) hown hK hP 0 rfl rfl 1 (by decide) (hts (.fieldLink RX2 20 "Shingletrack$Channel" "samplesThere" "I") (by decide +kernel)) (fun _ h9 => h9) rfl dX2_add_24 ?_
  exact W.iret (v := (th + 1)) hx hb hr (fun t ht hW => ⟨⟨(th + 1), [(c0, .inr (1, [.ref a1, .int (th + 1), .ref a3, .ref a5, .ref a7, .ref a9])), (a1, .inr (3, [.ref a2])), (a2, .inl (cJ, 12, .inr (.inl (fPut 12 sa th i.toInt64))))], rfl, ⟨rfl, rfl⟩, (by rw [ht]; exact hP), va_K.moved hW.alike hK, hD⟩, hS.F ht⟩) hS.2.2 dX2_add_27
set_option maxHeartbeats 4000000 in
set_option maxRecDepth 100000 in
theorem c_X2_goOn (l : Launch) (D : va_G) (cJ : ClassId) (c0 a1 a3 a4 a5 a6 a7 a8 a9 a10 : Nat) (th : Int32) (sq nu ns nn NS NN : Nat → Int64) (x : Int64) (hN : kSt x sq nu 4 0 (fFil ns 1000000 4) (fFil nn 0 4) = (NS, NN)) : wc_v l yX2_goOn wsX2_goOn ({ frames := 1, cells := 0, slots := 0, locals := 27 } : Room) [.ref c0, .long x] D cJ [(c0, .inr (1, [.ref a1, .int th, .ref a3, .ref a5, .ref a7, .ref a9])), (a3, .inr (3, [.ref a4])), (a4, .inl (cJ, 4, .inr (.inl sq))), (a5, .inr (3, [.ref a6])), (a6, .inl (cJ, 4, .inr (.inl nu))), (a7, .inr (3, [.ref a8])), (a8, .inl (cJ, 4, .inr (.inl ns))), (a9, .inr (3, [.ref a10])), (a10, .inl (cJ, 4, .inr (.inl nn)))] [(c0, .inr (1, [.ref a1, .int th, .ref a3, .ref a5, .ref a7, .ref a9])), (a3, .inr (3, [.ref a4])), (a4, .inl (cJ, 4, .inr (.inl (kCp NS 4 0 sq)))), (a5, .inr (3, [.ref a6])), (a6, .inl (cJ, 4, .inr (.inl (kCp NN 4 0 nu)))), (a7, .inr (3, [.ref a8])), (a8, .inl (cJ, 4, .inr (.inl NS))), (a9, .inr (3, [.ref a10])), (a10, .inl (cJ, 4, .inr (.inl NN)))] := by
  intro sz
  refine Met.ofW (cc := cX2_goOn) (maxL := 12) (ret := none) (by decide) rfl ?_
  intro p e s m args below meth c s₁ B hml hv
  obtain ⟨rfl, rfl, hP, hK, hD0⟩ := hv
  have hx := B.exec
  have hb := B.bytes
  have hr := B.returns
  have hts := atoms_spec (ws := wsX2_goOn) B.pre
  have hown : s.vm.findClass RX2 = some m.cls := findClass_of_methodNamed B.named
  have hlocks := B.notSynchronized
  have hS : va_S (va_A [(c0, .inr (1, [.ref a1, .int th, .ref a3, .ref a5, .ref a7, .ref a9])), (a3, .inr (3, [.ref a4])), (a4, .inl (cJ, 4, .inr (.inl sq))), (a5, .inr (3, [.ref a6])), (a6, .inl (cJ, 4, .inr (.inl nu))), (a7, .inr (3, [.ref a8])), (a8, .inl (cJ, 4, .inr (.inl ns))), (a9, .inr (3, [.ref a10])), (a10, .inl (cJ, 4, .inr (.inl nn)))] s.heap.size) s.heap s.heap [] := va_S.rf
  have hD := hD0.self (sz := s.heap.size)
  have hA : ∀ q : Nat, s.heap.size ≤ q → (va_A [(c0, .inr (1, [.ref a1, .int th, .ref a3, .ref a5, .ref a7, .ref a9])), (a3, .inr (3, [.ref a4])), (a4, .inl (cJ, 4, .inr (.inl sq))), (a5, .inr (3, [.ref a6])), (a6, .inl (cJ, 4, .inr (.inl nu))), (a7, .inr (3, [.ref a8])), (a8, .inl (cJ, 4, .inr (.inl ns))), (a9, .inr (3, [.ref a10])), (a10, .inl (cJ, 4, .inr (.inl nn)))] s.heap.size) q := fun _ h => Or.inr h
  have hl := lv_entry ([.ref c0, .long x]) (n := 12) (Nat.le_of_ble_eq_true rfl)
  rw [lg_entry_eq]
  generalize (lg_sl ([.ref c0, .long x]) ++ List.replicate (12 - (lg_sl ([.ref c0, .long x])).length) Slot.unset).toArray = ls at hl ⊢
  have hl : lv_has ls 12 [(0, .ref c0), (1, .long x)] := hl
  have hP : va_P D vwCl [(c0, .inr (1, [.ref a1, .int th, .ref a3, .ref a5, .ref a7, .ref a9])), (a3, .inr (3, [.ref a4])), (a4, .inl (cJ, 4, .inr (.inl sq))), (a5, .inr (3, [.ref a6])), (a6, .inl (cJ, 4, .inr (.inl nu))), (a7, .inr (3, [.ref a8])), (a8, .inl (cJ, 4, .inr (.inl ns))), (a9, .inr (3, [.ref a10])), (a10, .inl (cJ, 4, .inr (.inl nn)))] s.heap := hP
  have l3 : ∀ (n k : Nat) (g : Nat → Int64) (g2 : Nat → Int64), k + n = 4 → (kCp NS n k g = kCp NS 4 0 sq ∧ kCp NN n k g2 = kCp NN 4 0 nu) → ∀ (H : Heap) (locs : List Loc) (ls : Array Slot), va_P D vwCl [(c0, .inr (1, [.ref a1, .int th, .ref a3, .ref a5, .ref a7, .ref a9])), (a3, .inr (3, [.ref a4])), (a4, .inl (cJ, 4, .inr (.inl g))), (a5, .inr (3, [.ref a6])), (a6, .inl (cJ, 4, .inr (.inl g2))), (a7, .inr (3, [.ref a8])), (a8, .inl (cJ, 4, .inr (.inl NS))), (a9, .inr (3, [.ref a10])), (a10, .inl (cJ, 4, .inr (.inl NN)))] H → va_D (va_A [(c0, .inr (1, [.ref a1, .int th, .ref a3, .ref a5, .ref a7, .ref a9])), (a3, .inr (3, [.ref a4])), (a4, .inl (cJ, 4, .inr (.inl sq))), (a5, .inr (3, [.ref a6])), (a6, .inl (cJ, 4, .inr (.inl nu))), (a7, .inr (3, [.ref a8])), (a8, .inl (cJ, 4, .inr (.inl ns))), (a9, .inr (3, [.ref a10])), (a10, .inl (cJ, 4, .inr (.inl nn)))] s.heap.size) [(c0, .inr (1, [.ref a1, .int th, .ref a3, .ref a5, .ref a7, .ref a9])), (a3, .inr (3, [.ref a4])), (a4, .inl (cJ, 4, .inr (.inl g))), (a5, .inr (3, [.ref a6])), (a6, .inl (cJ, 4, .inr (.inl g2))), (a7, .inr (3, [.ref a8])), (a8, .inl (cJ, 4, .inr (.inl NS))), (a9, .inr (3, [.ref a10])), (a10, .inl (cJ, 4, .inr (.inl NN)))] → va_S (va_A [(c0, .inr (1, [.ref a1, .int th, .ref a3, .ref a5, .ref a7, .ref a9])), (a3, .inr (3, [.ref a4])), (a4, .inl (cJ, 4, .inr (.inl sq))), (a5, .inr (3, [.ref a6])), (a6, .inl (cJ, 4, .inr (.inl nu))), (a7, .inr (3, [.ref a8])), (a8, .inl (cJ, 4, .inr (.inl ns))), (a9, .inr (3, [.ref a10])), (a10, .inl (cJ, 4, .inr (.inl nn)))] s.heap.size) s.heap H locs → lv_has ls 12 [(0, .ref c0), (1, .long x), (3, .int (nI k))] → W p l e (headSpec wsX2_goOn ({ frames := 1, cells := 0, slots := 0, locals := 27 } : Room)).room s m ([.ref c0, .long x] : List Value).toArray below meth c H locs 0 0 (MQ below (va_Qv (fun u : va_W => u = [(c0, .inr (1, [.ref a1, .int th, .ref a3, .ref a5, .ref a7, .ref a9])), (a3, .inr (3, [.ref a4])), (a4, .inl (cJ, 4, .inr (.inl (kCp NS 4 0 sq)))), (a5, .inr (3, [.ref a6])), (a6, .inl (cJ, 4, .inr (.inl (kCp NN 4 0 nu)))), (a7, .inr (3, [.ref a8])), (a8, .inl (cJ, 4, .inr (.inl NS))), (a9, .inr (3, [.ref a10])), (a10, .inl (cJ, 4, .inr (.inl NN)))]) (wPost D cJ [(c0, .inr (1, [.ref a1, .int th, .ref a3, .ref a5, .ref a7, .ref a9])), (a3, .inr (3, [.ref a4])), (a4, .inl (cJ, 4, .inr (.inl sq))), (a5, .inr (3, [.ref a6])), (a6, .inl (cJ, 4, .inr (.inl nu))), (a7, .inr (3, [.ref a8])), (a8, .inl (cJ, 4, .inr (.inl ns))), (a9, .inr (3, [.ref a10])), (a10, .inl (cJ, 4, .inr (.inl nn)))] s.heap.size) (va_A [(c0, .inr (1, [.ref a1, .int th, .ref a3, .ref a5, .ref a7, .ref a9])), (a3, .inr (3, [.ref a4])), (a4, .inl (cJ, 4, .inr (.inl sq))), (a5, .inr (3, [.ref a6])), (a6, .inl (cJ, 4, .inr (.inl nu))), (a7, .inr (3, [.ref a8])), (a8, .inl (cJ, 4, .inr (.inl ns))), (a9, .inr (3, [.ref a10])), (a10, .inl (cJ, 4, .inr (.inl nn)))] s.heap.size)) ([.ref c0, .long x] : List Value).toArray s 0 0 (va_A [(c0, .inr (1, [.ref a1, .int th, .ref a3, .ref a5, .ref a7, .ref a9])), (a3, .inr (3, [.ref a4])), (a4, .inl (cJ, 4, .inr (.inl sq))), (a5, .inr (3, [.ref a6])), (a6, .inl (cJ, 4, .inr (.inl nu))), (a7, .inr (3, [.ref a8])), (a8, .inl (cJ, 4, .inr (.inl ns))), (a9, .inr (3, [.ref a10])), (a10, .inl (cJ, 4, .inr (.inl nn)))] s.heap.size)) (F0 m 154 ls []) := by
    intro n
    induction n with
    | zero =>
      intro k g g2 hk_l3  hres_l3 H locs ls hP hD hS hl
      obtain rfl : k = 4 := by omega
      refine lv_iload_n hx hb dX2_goOn_154 rfl (lv_at hl 2 rfl) ?_
      refine lv_iconst (v := 4) hx hb dX2_goOn_155 (by decide) ?_
      refine lv_icmp_ge (tgt := 197) hx hb dX2_goOn_156 (by decide) (fun c_156 => ?_) (fun c_156 => absurd c_156 (by decide))
      exact W.vret hx hb hr (fun t ht hW => ⟨⟨[(c0, .inr (1, [.ref a1, .int th, .ref a3, .ref a5, .ref a7, .ref a9])), (a3, .inr (3, [.ref a4])), (a4, .inl (cJ, 4, .inr (.inl g))), (a5, .inr (3, [.ref a6])), (a6, .inl (cJ, 4, .inr (.inl g2))), (a7, .inr (3, [.ref a8])), (a8, .inl (cJ, 4, .inr (.inl NS))), (a9, .inr (3, [.ref a10])), (a10, .inl (cJ, 4, .inr (.inl NN)))], rfl, (by rw [show g = kCp NS 4 0 sq from hres_l3.1, show g2 = kCp NN 4 0 nu from hres_l3.2]), (by rw [ht]; exact hP), va_K.moved hW.alike hK, hD⟩, hS.F ht⟩) hS.2.2 dX2_goOn_197
    | succ n ih =>
      intro k g g2 hk_l3  hres_l3 H locs ls hP hD hS hl
      refine lv_iload_n hx hb dX2_goOn_154 rfl (lv_at hl 2 rfl) ?_
      refine lv_iconst (v := 4) hx hb dX2_goOn_155 (by decide) ?_
      refine lv_icmp_ge (tgt := 197) hx hb dX2_goOn_156 (by decide) (fun c_156 => absurd c_156 (nI_ge (a := k) (b := 4) (by omega) (by omega))) (fun c_156 => ?_)
      refine lv_aload_n hx hb dX2_goOn_159 rfl (lv_at hl 0 rfl) ?_
      refine va_get (D := D) (ci := 1) (v := .ref a3) (C := RX2) (T := TX2) (N := 6) hx hb hts (by decide +kernel) hown hK hP 0 rfl rfl 2 (by decide) (hts (.fieldLink RX2 24 "Shingletrack$Channel" "squares" "LShingletrack$Row;") (by decide +kernel)) (fun _ h9 => h9) rfl dX2_goOn_160 ?_
      refine lv_iload_n hx hb dX2_goOn_163 rfl (lv_at hl 2 rfl) ?_
      refine lv_aload_n hx hb dX2_goOn_164 rfl (lv_at hl 0 rfl) ?_
      refine va_get (D := D) (ci := 1) (v := .ref a7) (C := RX2) (T := TX2) (N := 6) hx hb hts (by decide +kernel) hown hK hP 0 rfl rfl 4 (by decide) (hts (.fieldLink RX2 30 "Shingletrack$Channel" "nextSquares" "LShingletrack$Row;") (by decide +kernel)) (fun _ h9 => h9) rfl dX2_goOn_165 ?_
      refine lv_iload_n hx hb dX2_goOn_168 rfl (lv_at hl 2 rfl) ?_
      refine ru_calll (As := [.int (nI k)]) (rest := [.int (nI k), .ref a3]) ⟨hx, hb, hml, hown, hts⟩ (c_X4_at l D cJ a7 a8 4 (by decide) NS (nI k)) (cwV 1 hts gX2_goOn_X4_at rfl rfl rfl (by decide +kernel) ⟨(Nat.le_of_ble_eq_true rfl), (Nat.le_of_ble_eq_true rfl)⟩) (va_recv hK hP (ci := 3) (q0 := 5) rfl rfl) rfl hl.1 (lv_room (Nat.le_of_ble_eq_true rfl)) dX2_goOn_169 ⟨(Nat.le_of_ble_eq_true rfl), (Nat.le_of_ble_eq_true rfl)⟩ hS hA rfl hK (hP.sub [5, 6] rfl) (fun locs hS => ?_)
      refine wu_callv (wr := [(c0, .inr (1, [.ref a1, .int th, .ref a3, .ref a5, .ref a7, .ref a9])), (a5, .inr (3, [.ref a6])), (a6, .inl (cJ, 4, .inr (.inl g2))), (a7, .inr (3, [.ref a8])), (a8, .inl (cJ, 4, .inr (.inl NS))), (a9, .inr (3, [.ref a10])), (a10, .inl (cJ, 4, .inr (.inl NN)))]) (wn := [(c0, .inr (1, [.ref a1, .int th, .ref a3, .ref a5, .ref a7, .ref a9])), (a3, .inr (3, [.ref a4])), (a4, .inl (cJ, 4, .inr (.inl (fPut 4 g (nI k) (fAt 4 NS (nI k)))))), (a5, .inr (3, [.ref a6])), (a6, .inl (cJ, 4, .inr (.inl g2))), (a7, .inr (3, [.ref a8])), (a8, .inl (cJ, 4, .inr (.inl NS))), (a9, .inr (3, [.ref a10])), (a10, .inl (cJ, 4, .inr (.inl NN)))]) (As := [.int (nI k), .long (fAt 4 NS (nI k))]) (rest := []) ⟨hx, hb, hml, hown, hts⟩ (c_X4_put l D cJ a3 a4 4 (by decide) g (nI k) (fAt 4 NS (nI k))) (cwV 2 hts gX2_goOn_X4_put rfl rfl rfl (by decide +kernel) ⟨(Nat.le_of_ble_eq_true rfl), (Nat.le_of_ble_eq_true rfl)⟩) (va_recv hK hP (ci := 3) (q0 := 1) rfl rfl) rfl hl.1 (lv_room (Nat.le_of_ble_eq_true rfl)) dX2_goOn_172 ⟨(Nat.le_of_ble_eq_true rfl), (Nat.le_of_ble_eq_true rfl)⟩ hS hA rfl hK hP hD [1, 2] [0, 3, 4, 5, 6, 7, 8] [0, 7, 8, 1, 2, 3, 4, 5, 6] rfl rfl (by decide) rfl (by decide) (by decide) rfl rfl (by decide) (fun H locs hP hD hS => ?_)
      refine lv_aload_n hx hb dX2_goOn_175 rfl (lv_at hl 0 rfl) ?_
      refine va_get (D := D) (ci := 1) (v := .ref a5) (C := RX2) (T := TX2) (N := 6) hx hb hts (by decide +kernel) hown hK hP 0 rfl rfl 3 (by decide) (hts (.fieldLink RX2 27 "Shingletrack$Channel" "numbers" "LShingletrack$Row;") (by decide +kernel)) (fun _ h9 => h9) rfl dX2_goOn_176 ?_
      refine lv_iload_n hx hb dX2_goOn_179 rfl (lv_at hl 2 rfl) ?_
      refine lv_aload_n hx hb dX2_goOn_180 rfl (lv_at hl 0 rfl) ?_
      refine va_get (D := D) (ci := 1) (v := .ref a9) (C := RX2) (T := TX2) (N := 6) hx hb hts (by decide +kernel) hown hK hP 0 rfl rfl 5 (by decide) (hts (.fieldLink RX2 33 "Shingletrack$Channel" "nextNumbers" "LShingletrack$Row;") (by decide +kernel)) (fun _ h9 => h9) rfl dX2_goOn_181 ?_
      refine lv_iload_n hx hb dX2_goOn_184 rfl (lv_at hl 2 rfl) ?_
      refine ru_calll (As := [.int (nI k)]) (rest := [.int (nI k), .ref a5]) ⟨hx, hb, hml, hown, hts⟩ (c_X4_at l D cJ a9 a10 4 (by decide) NN (nI k)) (cwV 1 hts gX2_goOn_X4_at rfl rfl rfl (by decide +kernel) ⟨(Nat.le_of_ble_eq_true rfl), (Nat.le_of_ble_eq_true rfl)⟩) (va_recv hK hP (ci := 3) (q0 := 7) rfl rfl) rfl hl.1 (lv_room (Nat.le_of_ble_eq_true rfl)) dX2_goOn_185 ⟨(Nat.le_of_ble_eq_true rfl), (Nat.le_of_ble_eq_true rfl)⟩ hS hA rfl hK (hP.sub [7, 8] rfl) (fun locs hS => ?_)
      refine wu_callv (wr := [(c0, .inr (1, [.ref a1, .int th, .ref a3, .ref a5, .ref a7, .ref a9])), (a3, .inr (3, [.ref a4])), (a4, .inl (cJ, 4, .inr (.inl (fPut 4 g (nI k) (fAt 4 NS (nI k)))))), (a7, .inr (3, [.ref a8])), (a8, .inl (cJ, 4, .inr (.inl NS))), (a9, .inr (3, [.ref a10])), (a10, .inl (cJ, 4, .inr (.inl NN)))]) (wn := [(c0, .inr (1, [.ref a1, .int th, .ref a3, .ref a5, .ref a7, .ref a9])), (a3, .inr (3, [.ref a4])), (a4, .inl (cJ, 4, .inr (.inl (fPut 4 g (nI k) (fAt 4 NS (nI k)))))), (a5, .inr (3, [.ref a6])), (a6, .inl (cJ, 4, .inr (.inl (fPut 4 g2 (nI k) (fAt 4 NN (nI k)))))), (a7, .inr (3, [.ref a8])), (a8, .inl (cJ, 4, .inr (.inl NS))), (a9, .inr (3, [.ref a10])), (a10, .inl (cJ, 4, .inr (.inl NN)))]) (As := [.int (nI k), .long (fAt 4 NN (nI k))]) (rest := []) ⟨hx, hb, hml, hown, hts⟩ (c_X4_put l D cJ a5 a6 4 (by decide) g2 (nI k) (fAt 4 NN (nI k))) (cwV 2 hts gX2_goOn_X4_put rfl rfl rfl (by decide +kernel) ⟨(Nat.le_of_ble_eq_true rfl), (Nat.le_of_ble_eq_true rfl)⟩) (va_recv hK hP (ci := 3) (q0 := 3) rfl rfl) rfl hl.1 (lv_room (Nat.le_of_ble_eq_true rfl)) dX2_goOn_188 ⟨(Nat.le_of_ble_eq_true rfl), (Nat.le_of_ble_eq_true rfl)⟩ hS hA rfl hK hP hD [3, 4] [0, 1, 2, 5, 6, 7, 8] [0, 1, 2, 7, 8, 3, 4, 5, 6] rfl rfl (by decide) rfl (by decide) (by decide) rfl rfl (by decide) (fun H locs hP hD hS => ?_)
      refine lv_iinc (v := nI (k + 1)) (lv' := [(3, .int (nI (k + 1))), (0, .ref c0), (1, .long x)]) hx hb dX2_goOn_191 hl (k := 2) rfl (nI_1 _) (by decide) rfl (fun ls hl => ?_)
      refine lv_goto (tgt := 154) hx hb dX2_goOn_194 (by decide) ?_
      exact ih (k + 1) _ _ (by omega) hres_l3 _ _ ls hP hD hS (lv_sub hl [1, 2, 0] rfl)
  have l2 : ∀ (n k : Nat) (f1 : Nat → Int64) (f2 : Nat → Int64), k + n = 4 → kSt x sq nu n k f1 f2 = (NS, NN) → ∀ (H : Heap) (locs : List Loc) (ls : Array Slot), va_P D vwCl [(c0, .inr (1, [.ref a1, .int th, .ref a3, .ref a5, .ref a7, .ref a9])), (a3, .inr (3, [.ref a4])), (a4, .inl (cJ, 4, .inr (.inl sq))), (a5, .inr (3, [.ref a6])), (a6, .inl (cJ, 4, .inr (.inl nu))), (a7, .inr (3, [.ref a8])), (a8, .inl (cJ, 4, .inr (.inl f1))), (a9, .inr (3, [.ref a10])), (a10, .inl (cJ, 4, .inr (.inl f2)))] H → va_D (va_A [(c0, .inr (1, [.ref a1, .int th, .ref a3, .ref a5, .ref a7, .ref a9])), (a3, .inr (3, [.ref a4])), (a4, .inl (cJ, 4, .inr (.inl sq))), (a5, .inr (3, [.ref a6])), (a6, .inl (cJ, 4, .inr (.inl nu))), (a7, .inr (3, [.ref a8])), (a8, .inl (cJ, 4, .inr (.inl ns))), (a9, .inr (3, [.ref a10])), (a10, .inl (cJ, 4, .inr (.inl nn)))] s.heap.size) [(c0, .inr (1, [.ref a1, .int th, .ref a3, .ref a5, .ref a7, .ref a9])), (a3, .inr (3, [.ref a4])), (a4, .inl (cJ, 4, .inr (.inl sq))), (a5, .inr (3, [.ref a6])), (a6, .inl (cJ, 4, .inr (.inl nu))), (a7, .inr (3, [.ref a8])), (a8, .inl (cJ, 4, .inr (.inl f1))), (a9, .inr (3, [.ref a10])), (a10, .inl (cJ, 4, .inr (.inl f2)))] → va_S (va_A [(c0, .inr (1, [.ref a1, .int th, .ref a3, .ref a5, .ref a7, .ref a9])), (a3, .inr (3, [.ref a4])), (a4, .inl (cJ, 4, .inr (.inl sq))), (a5, .inr (3, [.ref a6])), (a6, .inl (cJ, 4, .inr (.inl nu))), (a7, .inr (3, [.ref a8])), (a8, .inl (cJ, 4, .inr (.inl ns))), (a9, .inr (3, [.ref a10])), (a10, .inl (cJ, 4, .inr (.inl nn)))] s.heap.size) s.heap H locs → lv_has ls 12 [(0, .ref c0), (1, .long x), (3, .int (nI k))] → W p l e (headSpec wsX2_goOn ({ frames := 1, cells := 0, slots := 0, locals := 27 } : Room)).room s m ([.ref c0, .long x] : List Value).toArray below meth c H locs 0 0 (MQ below (va_Qv (fun u : va_W => u = [(c0, .inr (1, [.ref a1, .int th, .ref a3, .ref a5, .ref a7, .ref a9])), (a3, .inr (3, [.ref a4])), (a4, .inl (cJ, 4, .inr (.inl (kCp NS 4 0 sq)))), (a5, .inr (3, [.ref a6])), (a6, .inl (cJ, 4, .inr (.inl (kCp NN 4 0 nu)))), (a7, .inr (3, [.ref a8])), (a8, .inl (cJ, 4, .inr (.inl NS))), (a9, .inr (3, [.ref a10])), (a10, .inl (cJ, 4, .inr (.inl NN)))]) (wPost D cJ [(c0, .inr (1, [.ref a1, .int th, .ref a3, .ref a5, .ref a7, .ref a9])), (a3, .inr (3, [.ref a4])), (a4, .inl (cJ, 4, .inr (.inl sq))), (a5, .inr (3, [.ref a6])), (a6, .inl (cJ, 4, .inr (.inl nu))), (a7, .inr (3, [.ref a8])), (a8, .inl (cJ, 4, .inr (.inl ns))), (a9, .inr (3, [.ref a10])), (a10, .inl (cJ, 4, .inr (.inl nn)))] s.heap.size) (va_A [(c0, .inr (1, [.ref a1, .int th, .ref a3, .ref a5, .ref a7, .ref a9])), (a3, .inr (3, [.ref a4])), (a4, .inl (cJ, 4, .inr (.inl sq))), (a5, .inr (3, [.ref a6])), (a6, .inl (cJ, 4, .inr (.inl nu))), (a7, .inr (3, [.ref a8])), (a8, .inl (cJ, 4, .inr (.inl ns))), (a9, .inr (3, [.ref a10])), (a10, .inl (cJ, 4, .inr (.inl nn)))] s.heap.size)) ([.ref c0, .long x] : List Value).toArray s 0 0 (va_A [(c0, .inr (1, [.ref a1, .int th, .ref a3, .ref a5, .ref a7, .ref a9])), (a3, .inr (3, [.ref a4])), (a4, .inl (cJ, 4, .inr (.inl sq))), (a5, .inr (3, [.ref a6])), (a6, .inl (cJ, 4, .inr (.inl nu))), (a7, .inr (3, [.ref a8])), (a8, .inl (cJ, 4, .inr (.inl ns))), (a9, .inr (3, [.ref a10])), (a10, .inl (cJ, 4, .inr (.inl nn)))] s.heap.size)) (F0 m 20 ls []) := by
    intro n
    induction n with
    | zero =>
      intro k f1 f2 hk_l2  hres_l2 H locs ls hP hD hS hl
      obtain rfl : k = 4 := by omega
      have e1 : f1 = NS := congrArg Prod.fst hres_l2
      have e2 : f2 = NN := congrArg Prod.snd hres_l2
      rw [e1, e2] at hP hD
      refine lv_iload_n hx hb dX2_goOn_20 rfl (lv_at hl 2 rfl) ?_
      refine lv_iconst (v := 4) hx hb dX2_goOn_21 (by decide) ?_
      refine lv_icmp_ge (tgt := 152) hx hb dX2_goOn_22 (by decide) (fun c_22 => ?_) (fun c_22 => absurd c_22 (by decide))
      refine lv_iconst (v := 0) hx hb dX2_goOn_152 (by decide) ?_
      refine lv_istore_n (lv' := [(3, .int 0), (0, .ref c0), (1, .long x)]) hx hb dX2_goOn_153 rfl hl (by decide) rfl (fun ls hl => ?_)
      exact l3 4 0 _ _ rfl ⟨rfl, rfl⟩ _ _ ls hP hD hS (lv_sub hl [1, 2, 0] rfl)
    | succ n ih =>
      intro k f1 f2 hk_l2  hres_l2 H locs ls hP hD hS hl
      have l1 : ∀ (n1 j : Nat) (f3 : Nat → Int64) (f4 : Nat → Int64), j + n1 = 2 → kIn x sq nu k n1 j f3 f4 = kIn x sq nu k 2 0 f1 f2 → ∀ (H : Heap) (locs : List Loc) (ls : Array Slot), va_P D vwCl [(c0, .inr (1, [.ref a1, .int th, .ref a3, .ref a5, .ref a7, .ref a9])), (a3, .inr (3, [.ref a4])), (a4, .inl (cJ, 4, .inr (.inl sq))), (a5, .inr (3, [.ref a6])), (a6, .inl (cJ, 4, .inr (.inl nu))), (a7, .inr (3, [.ref a8])), (a8, .inl (cJ, 4, .inr (.inl f3))), (a9, .inr (3, [.ref a10])), (a10, .inl (cJ, 4, .inr (.inl f4)))] H → va_D (va_A [(c0, .inr (1, [.ref a1, .int th, .ref a3, .ref a5, .ref a7, .ref a9])), (a3, .inr (3, [.ref a4])), (a4, .inl (cJ, 4, .inr (.inl sq))), (a5, .inr (3, [.ref a6])), (a6, .inl (cJ, 4, .inr (.inl nu))), (a7, .inr (3, [.ref a8])), (a8, .inl (cJ, 4, .inr (.inl ns))), (a9, .inr (3, [.ref a10])), (a10, .inl (cJ, 4, .inr (.inl nn)))] s.heap.size) [(c0, .inr (1, [.ref a1, .int th, .ref a3, .ref a5, .ref a7, .ref a9])), (a3, .inr (3, [.ref a4])), (a4, .inl (cJ, 4, .inr (.inl sq))), (a5, .inr (3, [.ref a6])), (a6, .inl (cJ, 4, .inr (.inl nu))), (a7, .inr (3, [.ref a8])), (a8, .inl (cJ, 4, .inr (.inl f3))), (a9, .inr (3, [.ref a10])), (a10, .inl (cJ, 4, .inr (.inl f4)))] → va_S (va_A [(c0, .inr (1, [.ref a1, .int th, .ref a3, .ref a5, .ref a7, .ref a9])), (a3, .inr (3, [.ref a4])), (a4, .inl (cJ, 4, .inr (.inl sq))), (a5, .inr (3, [.ref a6])), (a6, .inl (cJ, 4, .inr (.inl nu))), (a7, .inr (3, [.ref a8])), (a8, .inl (cJ, 4, .inr (.inl ns))), (a9, .inr (3, [.ref a10])), (a10, .inl (cJ, 4, .inr (.inl nn)))] s.heap.size) s.heap H locs → lv_has ls 12 [(0, .ref c0), (1, .long x), (3, .int (nI k)), (4, .int (nI j))] → W p l e (headSpec wsX2_goOn ({ frames := 1, cells := 0, slots := 0, locals := 27 } : Room)).room s m ([.ref c0, .long x] : List Value).toArray below meth c H locs 0 0 (MQ below (va_Qv (fun u : va_W => u = [(c0, .inr (1, [.ref a1, .int th, .ref a3, .ref a5, .ref a7, .ref a9])), (a3, .inr (3, [.ref a4])), (a4, .inl (cJ, 4, .inr (.inl (kCp NS 4 0 sq)))), (a5, .inr (3, [.ref a6])), (a6, .inl (cJ, 4, .inr (.inl (kCp NN 4 0 nu)))), (a7, .inr (3, [.ref a8])), (a8, .inl (cJ, 4, .inr (.inl NS))), (a9, .inr (3, [.ref a10])), (a10, .inl (cJ, 4, .inr (.inl NN)))]) (wPost D cJ [(c0, .inr (1, [.ref a1, .int th, .ref a3, .ref a5, .ref a7, .ref a9])), (a3, .inr (3, [.ref a4])), (a4, .inl (cJ, 4, .inr (.inl sq))), (a5, .inr (3, [.ref a6])), (a6, .inl (cJ, 4, .inr (.inl nu))), (a7, .inr (3, [.ref a8])), (a8, .inl (cJ, 4, .inr (.inl ns))), (a9, .inr (3, [.ref a10])), (a10, .inl (cJ, 4, .inr (.inl nn)))] s.heap.size) (va_A [(c0, .inr (1, [.ref a1, .int th, .ref a3, .ref a5, .ref a7, .ref a9])), (a3, .inr (3, [.ref a4])), (a4, .inl (cJ, 4, .inr (.inl sq))), (a5, .inr (3, [.ref a6])), (a6, .inl (cJ, 4, .inr (.inl nu))), (a7, .inr (3, [.ref a8])), (a8, .inl (cJ, 4, .inr (.inl ns))), (a9, .inr (3, [.ref a10])), (a10, .inl (cJ, 4, .inr (.inl nn)))] s.heap.size)) ([.ref c0, .long x] : List Value).toArray s 0 0 (va_A [(c0, .inr (1, [.ref a1, .int th, .ref a3, .ref a5, .ref a7, .ref a9])), (a3, .inr (3, [.ref a4])), (a4, .inl (cJ, 4, .inr (.inl sq))), (a5, .inr (3, [.ref a6])), (a6, .inl (cJ, 4, .inr (.inl nu))), (a7, .inr (3, [.ref a8])), (a8, .inl (cJ, 4, .inr (.inl ns))), (a9, .inr (3, [.ref a10])), (a10, .inl (cJ, 4, .inr (.inl nn)))] s.heap.size)) (F0 m 28 ls []) := by
        intro n1
        induction n1 with
        | zero =>
          intro j f3 f4 hk_l1  hres_l1 H locs ls hP hD hS hl
          obtain rfl : j = 2 := by omega
          refine lv_iload hx hb dX2_goOn_28 (lv_at hl 3 rfl) ?_
          refine lv_iconst (v := 2) hx hb dX2_goOn_30 (by decide) ?_
          refine lv_icmp_ge (tgt := 146) hx hb dX2_goOn_31 (by decide) (fun c_31 => ?_) (fun c_31 => absurd c_31 (by decide))
          refine lv_iinc (v := nI (k + 1)) (lv' := [(3, .int (nI (k + 1))), (0, .ref c0), (1, .long x), (4, .int (nI 2))]) hx hb dX2_goOn_146 hl (k := 2) rfl (nI_1 _) (by decide) rfl (fun ls hl => ?_)
          refine lv_goto (tgt := 20) hx hb dX2_goOn_149 (by decide) ?_
          exact ih (k + 1) _ _ (by omega) (by rw [kSt, ← hres_l1] at hres_l2; exact hres_l2) _ _ ls hP hD hS (lv_sub hl [1, 2, 0] rfl)
        | succ n1 ih1 =>
          intro j f3 f4 hk_l1  hres_l1 H locs ls hP hD hS hl
          refine lv_iload hx hb dX2_goOn_28 (lv_at hl 3 rfl) ?_
          refine lv_iconst (v := 2) hx hb dX2_goOn_30 (by decide) ?_
          refine lv_icmp_ge (tgt := 146) hx hb dX2_goOn_31 (by decide) (fun c_31 => absurd c_31 (nI_ge (a := j) (b := 2) (by omega) (by omega))) (fun c_31 => ?_)
          refine lv_lload_n hx hb dX2_goOn_34 rfl (lv_at hl 1 rfl) ?_
          refine lv_bipush (v := 10) hx hb dX2_goOn_35 (by decide) ?_
          refine lv_iload hx hb dX2_goOn_37 (lv_at hl 3 rfl) ?_
          refine lv_iload_n hx hb dX2_goOn_39 rfl (lv_at hl 2 rfl) ?_
          refine lv_iconst (v := 1) hx hb dX2_goOn_40 (by decide) ?_
          refine lv_ishr hx hb dX2_goOn_41 ?_
          refine lv_isub hx hb dX2_goOn_42 ?_
          refine lv_imul hx hb dX2_goOn_43 ?_
          refine lv_i2l hx hb dX2_goOn_44 rfl ?_
          refine lv_lsub hx hb dX2_goOn_45 ?_
          refine lv_lstore (lv' := [(5, .long (kOff x k j)), (0, .ref c0), (1, .long x), (3, .int (nI k)), (4, .int (nI j))]) hx hb dX2_goOn_46 hl (by decide) rfl (fun ls hl => ?_)
          refine lv_aload_n hx hb dX2_goOn_48 rfl (lv_at hl 1 rfl) ?_
          refine va_get (D := D) (ci := 1) (v := .ref a3) (C := RX2) (T := TX2) (N := 6) hx hb hts (by decide +kernel) hown hK hP 0 rfl rfl 2 (by decide) (hts (.fieldLink RX2 24 "Shingletrack$Channel" "squares" "LShingletrack$Row;") (by decide +kernel)) (fun _ h9 => h9) rfl dX2_goOn_49 ?_
          refine lv_iload_n hx hb dX2_goOn_52 rfl (lv_at hl 3 rfl) ?_
          refine ru_calll (As := [.int (nI k)]) (rest := []) ⟨hx, hb, hml, hown, hts⟩ (c_X4_at l D cJ a3 a4 4 (by decide) sq (nI k)) (cwV 1 hts gX2_goOn_X4_at rfl rfl rfl (by decide +kernel) ⟨(Nat.le_of_ble_eq_true rfl), (Nat.le_of_ble_eq_true rfl)⟩) (va_recv hK hP (ci := 3) (q0 := 1) rfl rfl) rfl hl.1 (lv_room (Nat.le_of_ble_eq_true rfl)) dX2_goOn_53 ⟨(Nat.le_of_ble_eq_true rfl), (Nat.le_of_ble_eq_true rfl)⟩ hS hA rfl hK (hP.sub [1, 2] rfl) (fun locs hS => ?_)
          refine lv_lload hx hb dX2_goOn_56 (lv_at hl 0 rfl) ?_
          refine lv_lload hx hb dX2_goOn_58 (lv_at hl 0 rfl) ?_
          refine lv_lmul hx hb dX2_goOn_60 ?_
          refine lv_ladd hx hb dX2_goOn_61 ?_
          refine lv_lstore (lv' := [(7, .long (kSq x sq k j)), (5, .long (kOff x k j)), (0, .ref c0), (1, .long x), (3, .int (nI k)), (4, .int (nI j))]) hx hb dX2_goOn_62 hl (by decide) rfl (fun ls hl => ?_)
          refine lv_aload_n hx hb dX2_goOn_64 rfl (lv_at hl 2 rfl) ?_
          refine va_get (D := D) (ci := 1) (v := .ref a5) (C := RX2) (T := TX2) (N := 6) hx hb hts (by decide +kernel) hown hK hP 0 rfl rfl 3 (by decide) (hts (.fieldLink RX2 27 "Shingletrack$Channel" "numbers" "LShingletrack$Row;") (by decide +kernel)) (fun _ h9 => h9) rfl dX2_goOn_65 ?_
          refine lv_iload_n hx hb dX2_goOn_68 rfl (lv_at hl 4 rfl) ?_
          refine ru_calll (As := [.int (nI k)]) (rest := []) ⟨hx, hb, hml, hown, hts⟩ (c_X4_at l D cJ a5 a6 4 (by decide) nu (nI k)) (cwV 1 hts gX2_goOn_X4_at rfl rfl rfl (by decide +kernel) ⟨(Nat.le_of_ble_eq_true rfl), (Nat.le_of_ble_eq_true rfl)⟩) (va_recv hK hP (ci := 3) (q0 := 3) rfl rfl) rfl hl.1 (lv_room (Nat.le_of_ble_eq_true rfl)) dX2_goOn_69 ⟨(Nat.le_of_ble_eq_true rfl), (Nat.le_of_ble_eq_true rfl)⟩ hS hA rfl hK (hP.sub [3, 4] rfl) (fun locs hS => ?_)
          refine lv_iconst (v := 1) hx hb dX2_goOn_72 (by decide) ?_
          refine lv_lshl hx hb dX2_goOn_73 rfl ?_
          refine lv_iload hx hb dX2_goOn_74 (lv_at hl 5 rfl) ?_
          refine lv_i2l hx hb dX2_goOn_76 rfl ?_
          refine lv_lor hx hb dX2_goOn_77 ?_
          refine lv_lstore (lv' := [(9, .long (kNu nu k j)), (7, .long (kSq x sq k j)), (5, .long (kOff x k j)), (0, .ref c0), (1, .long x), (3, .int (nI k)), (4, .int (nI j))]) hx hb dX2_goOn_78 hl (by decide) rfl (fun ls hl => ?_)
          refine lv_iload_n hx hb dX2_goOn_80 rfl (lv_at hl 5 rfl) ?_
          refine lv_iconst (v := 1) hx hb dX2_goOn_81 (by decide) ?_
          refine lv_iand hx hb dX2_goOn_82 ?_
          refine lv_iconst (v := 1) hx hb dX2_goOn_83 (by decide) ?_
          refine lv_ishl hx hb dX2_goOn_84 ?_
          refine lv_iload hx hb dX2_goOn_85 (lv_at hl 6 rfl) ?_
          refine lv_ior hx hb dX2_goOn_87 ?_
          refine lv_istore (lv' := [(11, .int (kNx k j)), (9, .long (kNu nu k j)), (7, .long (kSq x sq k j)), (5, .long (kOff x k j)), (0, .ref c0), (1, .long x), (3, .int (nI k)), (4, .int (nI j))]) hx hb dX2_goOn_88 hl (by decide) rfl (fun ls hl => ?_)
          refine lv_lload hx hb dX2_goOn_90 (lv_at hl 2 rfl) ?_
          refine lv_lload hx hb dX2_goOn_92 (lv_at hl 1 rfl) ?_
          refine lv_aload_n hx hb dX2_goOn_94 rfl (lv_at hl 4 rfl) ?_
          refine va_get (D := D) (ci := 1) (v := .ref a7) (C := RX2) (T := TX2) (N := 6) hx hb hts (by decide +kernel) hown hK hP 0 rfl rfl 4 (by decide) (hts (.fieldLink RX2 30 "Shingletrack$Channel" "nextSquares" "LShingletrack$Row;") (by decide +kernel)) (fun _ h9 => h9) rfl dX2_goOn_95 ?_
          refine lv_iload hx hb dX2_goOn_98 (lv_at hl 0 rfl) ?_
          refine ru_calll (As := [.int (kNx k j)]) (rest := [.long (kNu nu k j), .long (kSq x sq k j)]) ⟨hx, hb, hml, hown, hts⟩ (c_X4_at l D cJ a7 a8 4 (by decide) f3 (kNx k j)) (cwV 1 hts gX2_goOn_X4_at rfl rfl rfl (by decide +kernel) ⟨(Nat.le_of_ble_eq_true rfl), (Nat.le_of_ble_eq_true rfl)⟩) (va_recv hK hP (ci := 3) (q0 := 5) rfl rfl) rfl hl.1 (lv_room (Nat.le_of_ble_eq_true rfl)) dX2_goOn_100 ⟨(Nat.le_of_ble_eq_true rfl), (Nat.le_of_ble_eq_true rfl)⟩ hS hA rfl hK (hP.sub [5, 6] rfl) (fun locs hS => ?_)
          refine lv_aload_n hx hb dX2_goOn_103 rfl (lv_at hl 4 rfl) ?_
          refine va_get (D := D) (ci := 1) (v := .ref a9) (C := RX2) (T := TX2) (N := 6) hx hb hts (by decide +kernel) hown hK hP 0 rfl rfl 5 (by decide) (hts (.fieldLink RX2 33 "Shingletrack$Channel" "nextNumbers" "LShingletrack$Row;") (by decide +kernel)) (fun _ h9 => h9) rfl dX2_goOn_104 ?_
          refine lv_iload hx hb dX2_goOn_107 (lv_at hl 0 rfl) ?_
          refine ru_calll (As := [.int (kNx k j)]) (rest := [.long (fAt 4 f3 (kNx k j)), .long (kNu nu k j), .long (kSq x sq k j)]) ⟨hx, hb, hml, hown, hts⟩ (c_X4_at l D cJ a9 a10 4 (by decide) f4 (kNx k j)) (cwV 1 hts gX2_goOn_X4_at rfl rfl rfl (by decide +kernel) ⟨(Nat.le_of_ble_eq_true rfl), (Nat.le_of_ble_eq_true rfl)⟩) (va_recv hK hP (ci := 3) (q0 := 7) rfl rfl) rfl hl.1 (lv_room (Nat.le_of_ble_eq_true rfl)) dX2_goOn_109 ⟨(Nat.le_of_ble_eq_true rfl), (Nat.le_of_ble_eq_true rfl)⟩ hS hA rfl hK (hP.sub [7, 8] rfl) (fun locs hS => ?_)
          refine pu_calli (As := [.long (kSq x sq k j), .long (kNu nu k j), .long (fAt 4 f3 (kNx k j)), .long (fAt 4 f4 (kNx k j))]) (rest := []) ⟨hx, hb, hml, hown, hts⟩ (c_X2_isBetter l (kSq x sq k j) (kNu nu k j) (fAt 4 f3 (kNx k j)) (fAt 4 f4 (kNx k j))) (va_cwS 4 hts gX2_goOn_X2_isBetter rfl rfl rfl (by decide +kernel) ⟨(Nat.le_of_ble_eq_true rfl), (Nat.le_of_ble_eq_true rfl)⟩) rfl hl.1 (lv_room (Nat.le_of_ble_eq_true rfl)) dX2_goOn_112 ⟨Nat.zero_le _, Nat.zero_le _⟩ hS hA rfl (fun locs hS => ?_)
          refine lv_if_eq (tgt := 140) hx hb dX2_goOn_115 (by decide) (fun c_115 => ?_) (fun c_115 => ?_)
          · refine lv_iinc (v := nI (j + 1)) (lv' := [(4, .int (nI (j + 1))), (11, .int (kNx k j)), (9, .long (kNu nu k j)), (7, .long (kSq x sq k j)), (5, .long (kOff x k j)), (0, .ref c0), (1, .long x), (3, .int (nI k))]) hx hb dX2_goOn_140 hl (k := 7) rfl (nI_1 _) (by decide) rfl (fun ls hl => ?_)
            refine lv_goto (tgt := 28) hx hb dX2_goOn_143 (by decide) ?_
            exact ih1 (j + 1) _ _ (by omega) (by rw [kIn, if_pos (show fBetter (kSq x sq k j) (kNu nu k j) (fAt 4 f3 (kNx k j)) (fAt 4 f4 (kNx k j)) = 0 from c_115)] at hres_l1; exact hres_l1) _ _ ls hP hD hS (lv_sub hl [5, 6, 7, 0] rfl)
          · refine lv_aload_n hx hb dX2_goOn_118 rfl (lv_at hl 4 rfl) ?_
            refine va_get (D := D) (ci := 1) (v := .ref a7) (C := RX2) (T := TX2) (N := 6) hx hb hts (by decide +kernel) hown hK hP 0 rfl rfl 4 (by decide) (hts (.fieldLink RX2 30 "Shingletrack$Channel" "nextSquares" "LShingletrack$Row;") (by decide +kernel)) (fun _ h9 => h9) rfl dX2_goOn_119 ?_
            refine lv_iload hx hb dX2_goOn_122 (lv_at hl 0 rfl) ?_
            refine lv_lload hx hb dX2_goOn_124 (lv_at hl 2 rfl) ?_
            refine wu_callv (wr := [(c0, .inr (1, [.ref a1, .int th, .ref a3, .ref a5, .ref a7, .ref a9])), (a3, .inr (3, [.ref a4])), (a4, .inl (cJ, 4, .inr (.inl sq))), (a5, .inr (3, [.ref a6])), (a6, .inl (cJ, 4, .inr (.inl nu))), (a9, .inr (3, [.ref a10])), (a10, .inl (cJ, 4, .inr (.inl f4)))]) (wn := [(c0, .inr (1, [.ref a1, .int th, .ref a3, .ref a5, .ref a7, .ref a9])), (a3, .inr (3, [.ref a4])), (a4, .inl (cJ, 4, .inr (.inl sq))), (a5, .inr (3, [.ref a6])), (a6, .inl (cJ, 4, .inr (.inl nu))), (a7, .inr (3, [.ref a8])), (a8, .inl (cJ, 4, .inr (.inl (fPut 4 f3 (kNx k j) (kSq x sq k j))))), (a9, .inr (3, [.ref a10])), (a10, .inl (cJ, 4, .inr (.inl f4)))]) (As := [.int (kNx k j), .long (kSq x sq k j)]) (rest := []) ⟨hx, hb, hml, hown, hts⟩ (c_X4_put l D cJ a7 a8 4 (by decide) f3 (kNx k j) (kSq x sq k j)) (cwV 2 hts gX2_goOn_X4_put rfl rfl rfl (by decide +kernel) ⟨(Nat.le_of_ble_eq_true rfl), (Nat.le_of_ble_eq_true rfl)⟩) (va_recv hK hP (ci := 3) (q0 := 5) rfl rfl) rfl hl.1 (lv_room (Nat.le_of_ble_eq_true rfl)) dX2_goOn_126 ⟨(Nat.le_of_ble_eq_true rfl), (Nat.le_of_ble_eq_true rfl)⟩ hS hA rfl hK hP hD [5, 6] [0, 1, 2, 3, 4, 7, 8] [0, 1, 2, 3, 4, 7, 8, 5, 6] rfl rfl (by decide) rfl (by decide) (by decide) rfl rfl (by decide) (fun H locs hP hD hS => ?_)
            refine lv_aload_n hx hb dX2_goOn_129 rfl (lv_at hl 4 rfl) ?_
            refine va_get (D := D) (ci := 1) (v := .ref a9) (C := RX2) (T := TX2) (N := 6) hx hb hts (by decide +kernel) hown hK hP 0 rfl rfl 5 (by decide) (hts (.fieldLink RX2 33 "Shingletrack$Channel" "nextNumbers" "LShingletrack$Row;") (by decide +kernel)) (fun _ h9 => h9) rfl dX2_goOn_130 ?_
            refine lv_iload hx hb dX2_goOn_133 (lv_at hl 0 rfl) ?_
            refine lv_lload hx hb dX2_goOn_135 (lv_at hl 1 rfl) ?_
            refine wu_callv (wr := [(c0, .inr (1, [.ref a1, .int th, .ref a3, .ref a5, .ref a7, .ref a9])), (a3, .inr (3, [.ref a4])), (a4, .inl (cJ, 4, .inr (.inl sq))), (a5, .inr (3, [.ref a6])), (a6, .inl (cJ, 4, .inr (.inl nu))), (a7, .inr (3, [.ref a8])), (a8, .inl (cJ, 4, .inr (.inl (fPut 4 f3 (kNx k j) (kSq x sq k j)))))]) (wn := [(c0, .inr (1, [.ref a1, .int th, .ref a3, .ref a5, .ref a7, .ref a9])), (a3, .inr (3, [.ref a4])), (a4, .inl (cJ, 4, .inr (.inl sq))), (a5, .inr (3, [.ref a6])), (a6, .inl (cJ, 4, .inr (.inl nu))), (a7, .inr (3, [.ref a8])), (a8, .inl (cJ, 4, .inr (.inl (fPut 4 f3 (kNx k j) (kSq x sq k j))))), (a9, .inr (3, [.ref a10])), (a10, .inl (cJ, 4, .inr (.inl (fPut 4 f4 (kNx k j) (kNu nu k j)))))]) (As := [.int (kNx k j), .long (kNu nu k j)]) (rest := []) ⟨hx, hb, hml, hown, hts⟩ (c_X4_put l D cJ a9 a10 4 (by decide) f4 (kNx k j) (kNu nu k j)) (cwV 2 hts gX2_goOn_X4_put rfl rfl rfl (by decide +kernel) ⟨(Nat.le_of_ble_eq_true rfl), (Nat.le_of_ble_eq_true rfl)⟩) (va_recv hK hP (ci := 3) (q0 := 7) rfl rfl) rfl hl.1 (lv_room (Nat.le_of_ble_eq_true rfl)) dX2_goOn_137 ⟨(Nat.le_of_ble_eq_true rfl), (Nat.le_of_ble_eq_true rfl)⟩ hS hA rfl hK hP hD [7, 8] [0, 1, 2, 3, 4, 5, 6] [0, 1, 2, 3, 4, 5, 6, 7, 8] rfl rfl (by decide) rfl (by decide) (by decide) rfl rfl (by decide) (fun H locs hP hD hS => ?_)
            refine lv_iinc (v := nI (j + 1)) (lv' := [(4, .int (nI (j + 1))), (11, .int (kNx k j)), (9, .long (kNu nu k j)), (7, .long (kSq x sq k j)), (5, .long (kOff x k j)), (0, .ref c0), (1, .long x), (3, .int (nI k))]) hx hb dX2_goOn_140 hl (k := 7) rfl (nI_1 _) (by decide) rfl (fun ls hl => ?_)
            refine lv_goto (tgt := 28) hx hb dX2_goOn_143 (by decide) ?_
            exact ih1 (j + 1) _ _ (by omega) (by rw [kIn, if_neg (show ¬ fBetter (kSq x sq k j) (kNu nu k j) (fAt 4 f3 (kNx k j)) (fAt 4 f4 (kNx k j)) = 0 from c_115)] at hres_l1; exact hres_l1) _ _ ls hP hD hS (lv_sub hl [5, 6, 7, 0] rfl)
      refine lv_iload_n hx hb dX2_goOn_20 rfl (lv_at hl 2 rfl) ?_
      refine lv_iconst (v := 4) hx hb dX2_goOn_21 (by decide) ?_
      refine lv_icmp_ge (tgt := 152) hx hb dX2_goOn_22 (by decide) (fun c_22 => absurd c_22 (nI_ge (a := k) (b := 4) (by omega) (by omega))) (fun c_22 => ?_)
      refine lv_iconst (v := 0) hx hb dX2_goOn_25 (by decide) ?_
      refine lv_istore (lv' := [(4, .int 0), (0, .ref c0), (1, .long x), (3, .int (nI k))]) hx hb dX2_goOn_26 hl (by decide) rfl (fun ls hl => ?_)
      exact l1 2 0 _ _ rfl rfl _ _ ls hP hD hS (lv_sub hl [1, 2, 3, 0] rfl)
  refine lv_aload_n hx hb dX2_goOn_0 rfl (lv_at hl 0 rfl) ?_
  refine va_get (D := D) (ci := 1) (v := .ref a7) (C := RX2) (T := TX2) (N := 6) hx hb hts (by decide +kernel) hown hK hP 0 rfl rfl 4 (by decide) (hts (.fieldLink RX2 30 "Shingletrack$Channel" "nextSquares" "LShingletrack$Row;") (by decide +kernel)) (fun _ h9 => h9) rfl dX2_goOn_1 ?_
  refine lv_ldc2 (v := 1000000) hx hb hown (hts (.constantLong RX2 40 1000000) (by decide +kernel)) dX2_goOn_4 ?_
  refine wu_callv (wr := [(c0, .inr (1, [.ref a1, .int th, .ref a3, .ref a5, .ref a7, .ref a9])), (a3, .inr (3, [.ref a4])), (a4, .inl (cJ, 4, .inr (.inl sq))), (a5, .inr (3, [.ref a6])), (a6, .inl (cJ, 4, .inr (.inl nu))), (a9, .inr (3, [.ref a10])), (a10, .inl (cJ, 4, .inr (.inl nn)))]) (wn := [(c0, .inr (1, [.ref a1, .int th, .ref a3, .ref a5, .ref a7, .ref a9])), (a3, .inr (3, [.ref a4])), (a4, .inl (cJ, 4, .inr (.inl sq))), (a5, .inr (3, [.ref a6])), (a6, .inl (cJ, 4, .inr (.inl nu))), (a7, .inr (3, [.ref a8])), (a8, .inl (cJ, 4, .inr (.inl (fFil ns 1000000 4)))), (a9, .inr (3, [.ref a10])), (a10, .inl (cJ, 4, .inr (.inl nn)))]) (As := [.long 1000000]) (rest := []) ⟨hx, hb, hml, hown, hts⟩ (c_X4_fill l D cJ a7 a8 4 (by decide) ns 1000000) (cwV 1 hts gX2_goOn_X4_fill rfl rfl rfl (by decide +kernel) ⟨(Nat.le_of_ble_eq_true rfl), (Nat.le_of_ble_eq_true rfl)⟩) (va_recv hK hP (ci := 3) (q0 := 5) rfl rfl) rfl hl.1 (lv_room (Nat.le_of_ble_eq_true rfl)) dX2_goOn_7 ⟨(Nat.le_of_ble_eq_true rfl), (Nat.le_of_ble_eq_true rfl)⟩ hS hA rfl hK hP hD [5, 6] [0, 1, 2, 3, 4, 7, 8] [0, 1, 2, 3, 4, 7, 8, 5, 6] rfl rfl (by decide) rfl (by decide) (by decide) rfl rfl (by decide) (fun H locs hP hD hS => ?_)
  refine lv_aload_n hx hb dX2_goOn_10 rfl (lv_at hl 0 rfl) ?_
  refine va_get (D := D) (ci := 1) (v := .ref a9) (C := RX2) (T := TX2) (N := 6) hx hb hts (by decide +kernel) hown hK hP 0 rfl rfl 5 (by decide) (hts (.fieldLink RX2 33 "Shingletrack$Channel" "nextNumbers" "LShingletrack$Row;") (by decide +kernel)) (fun _ h9 => h9) rfl dX2_goOn_11 ?_
  refine lv_lconst (v := 0) hx hb dX2_goOn_14 (by decide) ?_
  refine wu_callv (wr := [(c0, .inr (1, [.ref a1, .int th, .ref a3, .ref a5, .ref a7, .ref a9])), (a3, .inr (3, [.ref a4])), (a4, .inl (cJ, 4, .inr (.inl sq))), (a5, .inr (3, [.ref a6])), (a6, .inl (cJ, 4, .inr (.inl nu))), (a7, .inr (3, [.ref a8])), (a8, .inl (cJ, 4, .inr (.inl (fFil ns 1000000 4))))]) (wn := [(c0, .inr (1, [.ref a1, .int th, .ref a3, .ref a5, .ref a7, .ref a9])), (a3, .inr (3, [.ref a4])), (a4, .inl (cJ, 4, .inr (.inl sq))), (a5, .inr (3, [.ref a6])), (a6, .inl (cJ, 4, .inr (.inl nu))), (a7, .inr (3, [.ref a8])), (a8, .inl (cJ, 4, .inr (.inl (fFil ns 1000000 4)))), (a9, .inr (3, [.ref a10])), (a10, .inl (cJ, 4, .inr (.inl (fFil nn 0 4))))]) (As := [.long 0]) (rest := []) ⟨hx, hb, hml, hown, hts⟩ (c_X4_fill l D cJ a9 a10 4 (by decide) nn 0) (cwV 1 hts gX2_goOn_X4_fill rfl rfl rfl (by decide +kernel) ⟨(Nat.le_of_ble_eq_true rfl), (Nat.le_of_ble_eq_true rfl)⟩) (va_recv hK hP (ci := 3) (q0 := 7) rfl rfl) rfl hl.1 (lv_room (Nat.le_of_ble_eq_true rfl)) dX2_goOn_15 ⟨(Nat.le_of_ble_eq_true rfl), (Nat.le_of_ble_eq_true rfl)⟩ hS hA rfl hK hP hD [7, 8] [0, 1, 2, 3, 4, 5, 6] [0, 1, 2, 3, 4, 5, 6, 7, 8] rfl rfl (by decide) rfl (by decide) (by decide) rfl rfl (by decide) (fun H locs hP hD hS => ?_)
  refine lv_iconst (v := 0) hx hb dX2_goOn_18 (by decide) ?_
  refine lv_istore_n (lv' := [(3, .int 0), (0, .ref c0), (1, .long x)]) hx hb dX2_goOn_19 rfl hl (by decide) rfl (fun ls hl => ?_)
  exact l2 4 0 _ _ rfl hN _ _ ls hP hD hS (lv_sub hl [1, 2, 0] rfl)
end
section
/-! the channel over all samples, and the best of the four states -/
def kRun (sa : Nat → Int64) : Nat → Nat → (Nat → Int64) → (Nat → Int64) → (Nat → Int64) → (Nat → Int64) → (Nat → Int64) × (Nat → Int64) × (Nat → Int64) × (Nat → Int64)
  | 0, _, a, b, c, d => (a, b, c, d)
  | n+1, k, a, b, c, d => kRun sa n (k+1) (kCp (kSt (fAt 12 sa (nI k)) a b 4 0 (fFil c 1000000 4) (fFil d 0 4)).1 4 0 a) (kCp (kSt (fAt 12 sa (nI k)) a b 4 0 (fFil c 1000000 4) (fFil d 0 4)).2 4 0 b) (kSt (fAt 12 sa (nI k)) a b 4 0 (fFil c 1000000 4) (fFil d 0 4)).1 (kSt (fAt 12 sa (nI k)) a b 4 0 (fFil c 1000000 4) (fFil d 0 4)).2
theorem pe {α β : Type} (u : α × β) : u = (u.1, u.2) := rfl
def kBe (sq nu : Nat → Int64) : Nat → Nat → Int32 → Int32
  | 0, _, b => b
  | n+1, k, b => kBe sq nu n (k+1) (if fBetter (fAt 4 sq (nI k)) (fAt 4 nu (nI k)) (fAt 4 sq b) (fAt 4 nu b) = 0 then b else nI k)
set_option maxHeartbeats 4000000 in
set_option maxRecDepth 100000 in
theorem c_X2_bestCells (l : Launch) (D : va_G) (cJ : ClassId) (c0 a1 a2 a3 a4 a5 a6 a7 a8 a9 a10 : Nat) (cnt : Nat) (hc : cnt ≤ 12) (sa sq nu ns nn Q1 Q2 Q3 Q4 : Nat → Int64) (hQ : kRun sa cnt 0 (fPut 4 (fFil sq 1000000 4) 0 0) (fFil nu 0 4) ns nn = (Q1, Q2, Q3, Q4)) : wc_i l yX2_bestCells wsX2_bestCells ({ frames := 2, cells := 0, slots := 0, locals := 58 } : Room) [.ref c0] D cJ [(c0, .inr (1, [.ref a1, .int (nI cnt), .ref a3, .ref a5, .ref a7, .ref a9])), (a1, .inr (3, [.ref a2])), (a2, .inl (cJ, 12, .inr (.inl sa))), (a3, .inr (3, [.ref a4])), (a4, .inl (cJ, 4, .inr (.inl sq))), (a5, .inr (3, [.ref a6])), (a6, .inl (cJ, 4, .inr (.inl nu))), (a7, .inr (3, [.ref a8])), (a8, .inl (cJ, 4, .inr (.inl ns))), (a9, .inr (3, [.ref a10])), (a10, .inl (cJ, 4, .inr (.inl nn)))] [(c0, .inr (1, [.ref a1, .int 0, .ref a3, .ref a5, .ref a7, .ref a9])), (a1, .inr (3, [.ref a2])), (a2, .inl (cJ, 12, .inr (.inl sa))), (a3, .inr (3, [.ref a4])), (a4, .inl (cJ, 4, .inr (.inl Q1))), (a5, .inr (3, [.ref a6])), (a6, .inl (cJ, 4, .inr (.inl Q2))), (a7, .inr (3, [.ref a8])), (a8, .inl (cJ, 4, .inr (.inl Q3))), (a9, .inr (3, [.ref a10])), (a10, .inl (cJ, 4, .inr (.inl Q4)))] ((fAt 4 Q2 (kBe Q1 Q2 3 1 0)).toInt32) := by
  intro sz
  refine Met.ofW (cc := cX2_bestCells) (maxL := 3) (ret := (some .int)) (by decide) rfl ?_
  intro p e s m args below meth c s₁ B hml hv
  obtain ⟨rfl, rfl, hP, hK, hD0⟩ := hv
  have hx := B.exec
  have hb := B.bytes
  have hr := B.returns
  have hts := atoms_spec (ws := wsX2_bestCells) B.pre
  have hown : s.vm.findClass RX2 = some m.cls := findClass_of_methodNamed B.named
  have hlocks := B.notSynchronized
  have hS : va_S (va_A [(c0, .inr (1, [.ref a1, .int (nI cnt), .ref a3, .ref a5, .ref a7, .ref a9])), (a1, .inr (3, [.ref a2])), (a2, .inl (cJ, 12, .inr (.inl sa))), (a3, .inr (3, [.ref a4])), (a4, .inl (cJ, 4, .inr (.inl sq))), (a5, .inr (3, [.ref a6])), (a6, .inl (cJ, 4, .inr (.inl nu))), (a7, .inr (3, [.ref a8])), (a8, .inl (cJ, 4, .inr (.inl ns))), (a9, .inr (3, [.ref a10])), (a10, .inl (cJ, 4, .inr (.inl nn)))] s.heap.size) s.heap s.heap [] := va_S.rf
  have hD := hD0.self (sz := s.heap.size)
  have hA : ∀ q : Nat, s.heap.size ≤ q → (va_A [(c0, .inr (1, [.ref a1, .int (nI cnt), .ref a3, .ref a5, .ref a7, .ref a9])), (a1, .inr (3, [.ref a2])), (a2, .inl (cJ, 12, .inr (.inl sa))), (a3, .inr (3, [.ref a4])), (a4, .inl (cJ, 4, .inr (.inl sq))), (a5, .inr (3, [.ref a6])), (a6, .inl (cJ, 4, .inr (.inl nu))), (a7, .inr (3, [.ref a8])), (a8, .inl (cJ, 4, .inr (.inl ns))), (a9, .inr (3, [.ref a10])), (a10, .inl (cJ, 4, .inr (.inl nn)))] s.heap.size) q := fun _ h => Or.inr h
  have hl := lv_entry ([.ref c0]) (n := 3) (Nat.le_of_ble_eq_true rfl)
  rw [lg_entry_eq]
  generalize (lg_sl ([.ref c0]) ++ List.replicate (3 - (lg_sl ([.ref c0])).length) Slot.unset).toArray = ls at hl ⊢
  have hl : lv_has ls 3 [(0, .ref c0)] := hl
  have hP : va_P D vwCl [(c0, .inr (1, [.ref a1, .int (nI cnt), .ref a3, .ref a5, .ref a7, .ref a9])), (a1, .inr (3, [.ref a2])), (a2, .inl (cJ, 12, .inr (.inl sa))), (a3, .inr (3, [.ref a4])), (a4, .inl (cJ, 4, .inr (.inl sq))), (a5, .inr (3, [.ref a6])), (a6, .inl (cJ, 4, .inr (.inl nu))), (a7, .inr (3, [.ref a8])), (a8, .inl (cJ, 4, .inr (.inl ns))), (a9, .inr (3, [.ref a10])), (a10, .inl (cJ, 4, .inr (.inl nn)))] s.heap := hP
  have l2 : ∀ (n k : Nat) (b : Int32), k + n = 4 → kBe Q1 Q2 n k b = kBe Q1 Q2 3 1 0 → ∀ (H : Heap) (locs : List Loc) (ls : Array Slot), va_P D vwCl [(c0, .inr (1, [.ref a1, .int 0, .ref a3, .ref a5, .ref a7, .ref a9])), (a1, .inr (3, [.ref a2])), (a2, .inl (cJ, 12, .inr (.inl sa))), (a3, .inr (3, [.ref a4])), (a4, .inl (cJ, 4, .inr (.inl Q1))), (a5, .inr (3, [.ref a6])), (a6, .inl (cJ, 4, .inr (.inl Q2))), (a7, .inr (3, [.ref a8])), (a8, .inl (cJ, 4, .inr (.inl Q3))), (a9, .inr (3, [.ref a10])), (a10, .inl (cJ, 4, .inr (.inl Q4)))] H → va_D (va_A [(c0, .inr (1, [.ref a1, .int (nI cnt), .ref a3, .ref a5, .ref a7, .ref a9])), (a1, .inr (3, [.ref a2])), (a2, .inl (cJ, 12, .inr (.inl sa))), (a3, .inr (3, [.ref a4])), (a4, .inl (cJ, 4, .inr (.inl sq))), (a5, .inr (3, [.ref a6])), (a6, .inl (cJ, 4, .inr (.inl nu))), (a7, .inr (3, [.ref a8])), (a8, .inl (cJ, 4, .inr (.inl ns))), (a9, .inr (3, [.ref a10])), (a10, .inl (cJ, 4, .inr (.inl nn)))] s.heap.size) [(c0, .inr (1, [.ref a1, .int 0, .ref a3, .ref a5, .ref a7, .ref a9])), (a1, .inr (3, [.ref a2])), (a2, .inl (cJ, 12, .inr (.inl sa))), (a3, .inr (3, [.ref a4])), (a4, .inl (cJ, 4, .inr (.inl Q1))), (a5, .inr (3, [.ref a6])), (a6, .inl (cJ, 4, .inr (.inl Q2))), (a7, .inr (3, [.ref a8])), (a8, .inl (cJ, 4, .inr (.inl Q3))), (a9, .inr (3, [.ref a10])), (a10, .inl (cJ, 4, .inr (.inl Q4)))] → va_S (va_A [(c0, .inr (1, [.ref a1, .int (nI cnt), .ref a3, .ref a5, .ref a7, .ref a9])), (a1, .inr (3, [.ref a2])), (a2, .inl (cJ, 12, .inr (.inl sa))), (a3, .inr (3, [.ref a4])), (a4, .inl (cJ, 4, .inr (.inl sq))), (a5, .inr (3, [.ref a6])), (a6, .inl (cJ, 4, .inr (.inl nu))), (a7, .inr (3, [.ref a8])), (a8, .inl (cJ, 4, .inr (.inl ns))), (a9, .inr (3, [.ref a10])), (a10, .inl (cJ, 4, .inr (.inl nn)))] s.heap.size) s.heap H locs → lv_has ls 3 [(0, .ref c0), (1, .int b), (2, .int (nI k))] → W p l e (headSpec wsX2_bestCells ({ frames := 2, cells := 0, slots := 0, locals := 58 } : Room)).room s m ([.ref c0] : List Value).toArray below meth c H locs 0 0 (MQ below (va_Qi (fun (r : Int32) (u : va_W) => r = (fAt 4 Q2 (kBe Q1 Q2 3 1 0)).toInt32 ∧ u = [(c0, .inr (1, [.ref a1, .int 0, .ref a3, .ref a5, .ref a7, .ref a9])), (a1, .inr (3, [.ref a2])), (a2, .inl (cJ, 12, .inr (.inl sa))), (a3, .inr (3, [.ref a4])), (a4, .inl (cJ, 4, .inr (.inl Q1))), (a5, .inr (3, [.ref a6])), (a6, .inl (cJ, 4, .inr (.inl Q2))), (a7, .inr (3, [.ref a8])), (a8, .inl (cJ, 4, .inr (.inl Q3))), (a9, .inr (3, [.ref a10])), (a10, .inl (cJ, 4, .inr (.inl Q4)))]) (wPost D cJ [(c0, .inr (1, [.ref a1, .int (nI cnt), .ref a3, .ref a5, .ref a7, .ref a9])), (a1, .inr (3, [.ref a2])), (a2, .inl (cJ, 12, .inr (.inl sa))), (a3, .inr (3, [.ref a4])), (a4, .inl (cJ, 4, .inr (.inl sq))), (a5, .inr (3, [.ref a6])), (a6, .inl (cJ, 4, .inr (.inl nu))), (a7, .inr (3, [.ref a8])), (a8, .inl (cJ, 4, .inr (.inl ns))), (a9, .inr (3, [.ref a10])), (a10, .inl (cJ, 4, .inr (.inl nn)))] s.heap.size) (va_A [(c0, .inr (1, [.ref a1, .int (nI cnt), .ref a3, .ref a5, .ref a7, .ref a9])), (a1, .inr (3, [.ref a2])), (a2, .inl (cJ, 12, .inr (.inl sa))), (a3, .inr (3, [.ref a4])), (a4, .inl (cJ, 4, .inr (.inl sq))), (a5, .inr (3, [.ref a6])), (a6, .inl (cJ, 4, .inr (.inl nu))), (a7, .inr (3, [.ref a8])), (a8, .inl (cJ, 4, .inr (.inl ns))), (a9, .inr (3, [.ref a10])), (a10, .inl (cJ, 4, .inr (.inl nn)))] s.heap.size)) ([.ref c0] : List Value).toArray s 0 0 (va_A [(c0, .inr (1, [.ref a1, .int (nI cnt), .ref a3, .ref a5, .ref a7, .ref a9])), (a1, .inr (3, [.ref a2])), (a2, .inl (cJ, 12, .inr (.inl sa))), (a3, .inr (3, [.ref a4])), (a4, .inl (cJ, 4, .inr (.inl sq))), (a5, .inr (3, [.ref a6])), (a6, .inl (cJ, 4, .inr (.inl nu))), (a7, .inr (3, [.ref a8])), (a8, .inl (cJ, 4, .inr (.inl ns))), (a9, .inr (3, [.ref a10])), (a10, .inl (cJ, 4, .inr (.inl nn)))] s.heap.size)) (F0 m 64 ls []) := by
    intro n
    induction n with
    | zero =>
      intro k b hk_l2  hres_l2 H locs ls hP hD hS hl
      obtain rfl : k = 4 := by omega
      refine lv_iload_n hx hb dX2_bestCells_64 rfl (lv_at hl 2 rfl) ?_
      refine lv_iconst (v := 4) hx hb dX2_bestCells_65 (by decide) ?_
      refine lv_icmp_ge (tgt := 115) hx hb dX2_bestCells_66 (by decide) (fun c_66 => ?_) (fun c_66 => absurd c_66 (by decide))
      refine lv_aload_n hx hb dX2_bestCells_115 rfl (lv_at hl 0 rfl) ?_
      refine va_get (D := D) (ci := 1) (v := .ref a5) (C := RX2) (T := TX2) (N := 6) hx hb hts (by decide +kernel) hown hK hP 0 rfl rfl 3 (by decide) (hts (.fieldLink RX2 27 "Shingletrack$Channel" "numbers" "LShingletrack$Row;") (by decide +kernel)) (fun _ h9 => h9) rfl dX2_bestCells_116 ?_
      refine lv_iload_n hx hb dX2_bestCells_119 rfl (lv_at hl 1 rfl) ?_
      refine ru_calli (As := [.int b]) (rest := []) ⟨hx, hb, hml, hown, hts⟩ (c_X4_intAt l D cJ a5 a6 4 (by decide) Q2 b) (cwV 1 hts gX2_bestCells_X4_intAt rfl rfl rfl (by decide +kernel) ⟨(Nat.le_of_ble_eq_true rfl), (Nat.le_of_ble_eq_true rfl)⟩) (va_recv hK hP (ci := 3) (q0 := 5) rfl rfl) rfl hl.1 (lv_room (Nat.le_of_ble_eq_true rfl)) dX2_bestCells_120 ⟨(Nat.le_of_ble_eq_true rfl), (Nat.le_of_ble_eq_true rfl)⟩ hS hA rfl hK (hP.sub [5, 6] rfl) (fun locs hS => ?_)
      exact W.iret (v := ((fAt 4 Q2 b).toInt32)) hx hb hr (fun t ht hW => ⟨⟨((fAt 4 Q2 b).toInt32), [(c0, .inr (1, [.ref a1, .int 0, .ref a3, .ref a5, .ref a7, .ref a9])), (a1, .inr (3, [.ref a2])), (a2, .inl (cJ, 12, .inr (.inl sa))), (a3, .inr (3, [.ref a4])), (a4, .inl (cJ, 4, .inr (.inl Q1))), (a5, .inr (3, [.ref a6])), (a6, .inl (cJ, 4, .inr (.inl Q2))), (a7, .inr (3, [.ref a8])), (a8, .inl (cJ, 4, .inr (.inl Q3))), (a9, .inr (3, [.ref a10])), (a10, .inl (cJ, 4, .inr (.inl Q4)))], rfl, ⟨(by rw [show b = kBe Q1 Q2 3 1 0 from hres_l2]), rfl⟩, (by rw [ht]; exact hP), va_K.moved hW.alike hK, hD⟩, hS.F ht⟩) hS.2.2 dX2_bestCells_123
    | succ n ih =>
      intro k b hk_l2  hres_l2 H locs ls hP hD hS hl
      refine lv_iload_n hx hb dX2_bestCells_64 rfl (lv_at hl 2 rfl) ?_
      refine lv_iconst (v := 4) hx hb dX2_bestCells_65 (by decide) ?_
      refine lv_icmp_ge (tgt := 115) hx hb dX2_bestCells_66 (by decide) (fun c_66 => absurd c_66 (nI_ge (a := k) (b := 4) (by omega) (by omega))) (fun c_66 => ?_)
      refine lv_aload_n hx hb dX2_bestCells_69 rfl (lv_at hl 0 rfl) ?_
      refine va_get (D := D) (ci := 1) (v := .ref a3) (C := RX2) (T := TX2) (N := 6) hx hb hts (by decide +kernel) hown hK hP 0 rfl rfl 2 (by decide) (hts (.fieldLink RX2 24 "Shingletrack$Channel" "squares" "LShingletrack$Row;") (by decide +kernel)) (fun _ h9 => h9) rfl dX2_bestCells_70 ?_
      refine lv_iload_n hx hb dX2_bestCells_73 rfl (lv_at hl 2 rfl) ?_
      refine ru_calll (As := [.int (nI k)]) (rest := []) ⟨hx, hb, hml, hown, hts⟩ (c_X4_at l D cJ a3 a4 4 (by decide) Q1 (nI k)) (cwV 1 hts gX2_bestCells_X4_at rfl rfl rfl (by decide +kernel) ⟨(Nat.le_of_ble_eq_true rfl), (Nat.le_of_ble_eq_true rfl)⟩) (va_recv hK hP (ci := 3) (q0 := 3) rfl rfl) rfl hl.1 (lv_room (Nat.le_of_ble_eq_true rfl)) dX2_bestCells_74 ⟨(Nat.le_of_ble_eq_true rfl), (Nat.le_of_ble_eq_true rfl)⟩ hS hA rfl hK (hP.sub [3, 4] rfl) (fun locs hS => ?_)
      refine lv_aload_n hx hb dX2_bestCells_77 rfl (lv_at hl 0 rfl) ?_
      refine va_get (D := D) (ci := 1) (v := .ref a5) (C := RX2) (T := TX2) (N := 6) hx hb hts (by decide +kernel) hown hK hP 0 rfl rfl 3 (by decide) (hts (.fieldLink RX2 27 "Shingletrack$Channel" "numbers" "LShingletrack$Row;") (by decide +kernel)) (fun _ h9 => h9) rfl dX2_bestCells_78 ?_
      refine lv_iload_n hx hb dX2_bestCells_81 rfl (lv_at hl 2 rfl) ?_
      refine ru_calll (As := [.int (nI k)]) (rest := [.long (fAt 4 Q1 (nI k))]) ⟨hx, hb, hml, hown, hts⟩ (c_X4_at l D cJ a5 a6 4 (by decide) Q2 (nI k)) (cwV 1 hts gX2_bestCells_X4_at rfl rfl rfl (by decide +kernel) ⟨(Nat.le_of_ble_eq_true rfl), (Nat.le_of_ble_eq_true rfl)⟩) (va_recv hK hP (ci := 3) (q0 := 5) rfl rfl) rfl hl.1 (lv_room (Nat.le_of_ble_eq_true rfl)) dX2_bestCells_82 ⟨(Nat.le_of_ble_eq_true rfl), (Nat.le_of_ble_eq_true rfl)⟩ hS hA rfl hK (hP.sub [5, 6] rfl) (fun locs hS => ?_)
      refine lv_aload_n hx hb dX2_bestCells_85 rfl (lv_at hl 0 rfl) ?_
      refine va_get (D := D) (ci := 1) (v := .ref a3) (C := RX2) (T := TX2) (N := 6) hx hb hts (by decide +kernel) hown hK hP 0 rfl rfl 2 (by decide) (hts (.fieldLink RX2 24 "Shingletrack$Channel" "squares" "LShingletrack$Row;") (by decide +kernel)) (fun _ h9 => h9) rfl dX2_bestCells_86 ?_
      refine lv_iload_n hx hb dX2_bestCells_89 rfl (lv_at hl 1 rfl) ?_
      refine ru_calll (As := [.int b]) (rest := [.long (fAt 4 Q2 (nI k)), .long (fAt 4 Q1 (nI k))]) ⟨hx, hb, hml, hown, hts⟩ (c_X4_at l D cJ a3 a4 4 (by decide) Q1 b) (cwV 1 hts gX2_bestCells_X4_at rfl rfl rfl (by decide +kernel) ⟨(Nat.le_of_ble_eq_true rfl), (Nat.le_of_ble_eq_true rfl)⟩) (va_recv hK hP (ci := 3) (q0 := 3) rfl rfl) rfl hl.1 (lv_room (Nat.le_of_ble_eq_true rfl)) dX2_bestCells_90 ⟨(Nat.le_of_ble_eq_true rfl), (Nat.le_of_ble_eq_true rfl)⟩ hS hA rfl hK (hP.sub [3, 4] rfl) (fun locs hS => ?_)
      refine lv_aload_n hx hb dX2_bestCells_93 rfl (lv_at hl 0 rfl) ?_
      refine va_get (D := D) (ci := 1) (v := .ref a5) (C := RX2) (T := TX2) (N := 6) hx hb hts (by decide +kernel) hown hK hP 0 rfl rfl 3 (by decide) (hts (.fieldLink RX2 27 "Shingletrack$Channel" "numbers" "LShingletrack$Row;") (by decide +kernel)) (fun _ h9 => h9) rfl dX2_bestCells_94 ?_
      refine lv_iload_n hx hb dX2_bestCells_97 rfl (lv_at hl 1 rfl) ?_
      refine ru_calll (As := [.int b]) (rest := [.long (fAt 4 Q1 b), .long (fAt 4 Q2 (nI k)), .long (fAt 4 Q1 (nI k))]) ⟨hx, hb, hml, hown, hts⟩ (c_X4_at l D cJ a5 a6 4 (by decide) Q2 b) (cwV 1 hts gX2_bestCells_X4_at rfl rfl rfl (by decide +kernel) ⟨(Nat.le_of_ble_eq_true rfl), (Nat.le_of_ble_eq_true rfl)⟩) (va_recv hK hP (ci := 3) (q0 := 5) rfl rfl) rfl hl.1 (lv_room (Nat.le_of_ble_eq_true rfl)) dX2_bestCells_98 ⟨(Nat.le_of_ble_eq_true rfl), (Nat.le_of_ble_eq_true rfl)⟩ hS hA rfl hK (hP.sub [5, 6] rfl) (fun locs hS => ?_)
      refine pu_calli (As := [.long (fAt 4 Q1 (nI k)), .long (fAt 4 Q2 (nI k)), .long (fAt 4 Q1 b), .long (fAt 4 Q2 b)]) (rest := []) ⟨hx, hb, hml, hown, hts⟩ (c_X2_isBetter l (fAt 4 Q1 (nI k)) (fAt 4 Q2 (nI k)) (fAt 4 Q1 b) (fAt 4 Q2 b)) (va_cwS 4 hts gX2_bestCells_X2_isBetter rfl rfl rfl (by decide +kernel) ⟨(Nat.le_of_ble_eq_true rfl), (Nat.le_of_ble_eq_true rfl)⟩) rfl hl.1 (lv_room (Nat.le_of_ble_eq_true rfl)) dX2_bestCells_101 ⟨Nat.zero_le _, Nat.zero_le _⟩ hS hA rfl (fun locs hS => ?_)
      refine lv_if_eq (tgt := 109) hx hb dX2_bestCells_104 (by decide) (fun c_104 => ?_) (fun c_104 => ?_)
      · refine lv_iinc (v := nI (k + 1)) (lv' := [(2, .int (nI (k + 1))), (0, .ref c0), (1, .int b)]) hx hb dX2_bestCells_109 hl (k := 2) rfl (nI_1 _) (by decide) rfl (fun ls hl => ?_)
        refine lv_goto (tgt := 64) hx hb dX2_bestCells_112 (by decide) ?_
        exact ih (k + 1) _ (by omega) (by rw [kBe, if_pos c_104] at hres_l2; exact hres_l2) _ _ ls hP hD hS (lv_sub hl [1, 2, 0] rfl)
      · refine lv_iload_n hx hb dX2_bestCells_107 rfl (lv_at hl 2 rfl) ?_
        refine lv_istore_n (lv' := [(1, .int (nI k)), (0, .ref c0), (2, .int (nI k))]) hx hb dX2_bestCells_108 rfl hl (by decide) rfl (fun ls hl => ?_)
        refine lv_iinc (v := nI (k + 1)) (lv' := [(2, .int (nI (k + 1))), (1, .int (nI k)), (0, .ref c0)]) hx hb dX2_bestCells_109 hl (k := 2) rfl (nI_1 _) (by decide) rfl (fun ls hl => ?_)
        refine lv_goto (tgt := 64) hx hb dX2_bestCells_112 (by decide) ?_
        exact ih (k + 1) _ (by omega) (by rw [kBe, if_neg c_104] at hres_l2; exact hres_l2) _ _ ls hP hD hS (lv_sub hl [2, 1, 0] rfl)
  have l1 : ∀ (n k : Nat) (f1 : Nat → Int64) (f2 : Nat → Int64) (f3 : Nat → Int64) (f4 : Nat → Int64), k + n = cnt → kRun sa n k f1 f2 f3 f4 = (Q1, Q2, Q3, Q4) → ∀ (H : Heap) (locs : List Loc) (ls : Array Slot), va_P D vwCl [(c0, .inr (1, [.ref a1, .int (nI cnt), .ref a3, .ref a5, .ref a7, .ref a9])), (a1, .inr (3, [.ref a2])), (a2, .inl (cJ, 12, .inr (.inl sa))), (a3, .inr (3, [.ref a4])), (a4, .inl (cJ, 4, .inr (.inl f1))), (a5, .inr (3, [.ref a6])), (a6, .inl (cJ, 4, .inr (.inl f2))), (a7, .inr (3, [.ref a8])), (a8, .inl (cJ, 4, .inr (.inl f3))), (a9, .inr (3, [.ref a10])), (a10, .inl (cJ, 4, .inr (.inl f4)))] H → va_D (va_A [(c0, .inr (1, [.ref a1, .int (nI cnt), .ref a3, .ref a5, .ref a7, .ref a9])), (a1, .inr (3, [.ref a2])), (a2, .inl (cJ, 12, .inr (.inl sa))), (a3, .inr (3, [.ref a4])), (a4, .inl (cJ, 4, .inr (.inl sq))), (a5, .inr (3, [.ref a6])), (a6, .inl (cJ, 4, .inr (.inl nu))), (a7, .inr (3, [.ref a8])), (a8, .inl (cJ, 4, .inr (.inl ns))), (a9, .inr (3, [.ref a10])), (a10, .inl (cJ, 4, .inr (.inl nn)))] s.heap.size) [(c0, .inr (1, [.ref a1, .int (nI cnt), .ref a3, .ref a5, .ref a7, .ref a9])), (a1, .inr (3, [.ref a2])), (a2, .inl (cJ, 12, .inr (.inl sa))), (a3, .inr (3, [.ref a4])), (a4, .inl (cJ, 4, .inr (.inl f1))), (a5, .inr (3, [.ref a6])), (a6, .inl (cJ, 4, .inr (.inl f2))), (a7, .inr (3, [.ref a8])), (a8, .inl (cJ, 4, .inr (.inl f3))), (a9, .inr (3, [.ref a10])), (a10, .inl (cJ, 4, .inr (.inl f4)))] → va_S (va_A [(c0, .inr (1, [.ref a1, .int (nI cnt), .ref a3, .ref a5, .ref a7, .ref a9])), (a1, .inr (3, [.ref a2])), (a2, .inl (cJ, 12, .inr (.inl sa))), (a3, .inr (3, [.ref a4])), (a4, .inl (cJ, 4, .inr (.inl sq))), (a5, .inr (3, [.ref a6])), (a6, .inl (cJ, 4, .inr (.inl nu))), (a7, .inr (3, [.ref a8])), (a8, .inl (cJ, 4, .inr (.inl ns))), (a9, .inr (3, [.ref a10])), (a10, .inl (cJ, 4, .inr (.inl nn)))] s.heap.size) s.heap H locs → lv_has ls 3 [(0, .ref c0), (1, .int (nI k))] → W p l e (headSpec wsX2_bestCells ({ frames := 2, cells := 0, slots := 0, locals := 58 } : Room)).room s m ([.ref c0] : List Value).toArray below meth c H locs 0 0 (MQ below (va_Qi (fun (r : Int32) (u : va_W) => r = (fAt 4 Q2 (kBe Q1 Q2 3 1 0)).toInt32 ∧ u = [(c0, .inr (1, [.ref a1, .int 0, .ref a3, .ref a5, .ref a7, .ref a9])), (a1, .inr (3, [.ref a2])), (a2, .inl (cJ, 12, .inr (.inl sa))), (a3, .inr (3, [.ref a4])), (a4, .inl (cJ, 4, .inr (.inl Q1))), (a5, .inr (3, [.ref a6])), (a6, .inl (cJ, 4, .inr (.inl Q2))), (a7, .inr (3, [.ref a8])), (a8, .inl (cJ, 4, .inr (.inl Q3))), (a9, .inr (3, [.ref a10])), (a10, .inl (cJ, 4, .inr (.inl Q4)))]) (wPost D cJ [(c0, .inr (1, [.ref a1, .int (nI cnt), .ref a3, .ref a5, .ref a7, .ref a9])), (a1, .inr (3, [.ref a2])), (a2, .inl (cJ, 12, .inr (.inl sa))), (a3, .inr (3, [.ref a4])), (a4, .inl (cJ, 4, .inr (.inl sq))), (a5, .inr (3, [.ref a6])), (a6, .inl (cJ, 4, .inr (.inl nu))), (a7, .inr (3, [.ref a8])), (a8, .inl (cJ, 4, .inr (.inl ns))), (a9, .inr (3, [.ref a10])), (a10, .inl (cJ, 4, .inr (.inl nn)))] s.heap.size) (va_A [(c0, .inr (1, [.ref a1, .int (nI cnt), .ref a3, .ref a5, .ref a7, .ref a9])), (a1, .inr (3, [.ref a2])), (a2, .inl (cJ, 12, .inr (.inl sa))), (a3, .inr (3, [.ref a4])), (a4, .inl (cJ, 4, .inr (.inl sq))), (a5, .inr (3, [.ref a6])), (a6, .inl (cJ, 4, .inr (.inl nu))), (a7, .inr (3, [.ref a8])), (a8, .inl (cJ, 4, .inr (.inl ns))), (a9, .inr (3, [.ref a10])), (a10, .inl (cJ, 4, .inr (.inl nn)))] s.heap.size)) ([.ref c0] : List Value).toArray s 0 0 (va_A [(c0, .inr (1, [.ref a1, .int (nI cnt), .ref a3, .ref a5, .ref a7, .ref a9])), (a1, .inr (3, [.ref a2])), (a2, .inl (cJ, 12, .inr (.inl sa))), (a3, .inr (3, [.ref a4])), (a4, .inl (cJ, 4, .inr (.inl sq))), (a5, .inr (3, [.ref a6])), (a6, .inl (cJ, 4, .inr (.inl nu))), (a7, .inr (3, [.ref a8])), (a8, .inl (cJ, 4, .inr (.inl ns))), (a9, .inr (3, [.ref a10])), (a10, .inl (cJ, 4, .inr (.inl nn)))] s.heap.size)) (F0 m 29 ls []) := by
    intro n
    induction n with
    | zero =>
      intro k f1 f2 f3 f4 hk_l1  hres_l1 H locs ls hP hD hS hl
      obtain rfl : cnt = k := by omega
      have e1 : f1 = Q1 := congrArg (fun u => u.1) hres_l1
      have e2 : f2 = Q2 := congrArg (fun u => u.2.1) hres_l1
      have e3 : f3 = Q3 := congrArg (fun u => u.2.2.1) hres_l1
      have e4 : f4 = Q4 := congrArg (fun u => u.2.2.2) hres_l1
      rw [e1, e2, e3, e4] at hP hD
      refine lv_iload_n hx hb dX2_bestCells_29 rfl (lv_at hl 1 rfl) ?_
      refine lv_aload_n hx hb dX2_bestCells_30 rfl (lv_at hl 0 rfl) ?_
      refine va_get (D := D) (ci := 1) (v := .int (nI cnt)) (C := RX2) (T := TX2) (N := 6) hx hb hts (by decide +kernel) hown hK hP 0 rfl rfl 1 (by decide) (hts (.fieldLink RX2 20 "Shingletrack$Channel" "samplesThere" "I") (by decide +kernel)) (fun _ h9 => h9) rfl dX2_bestCells_31 ?_
      refine lv_icmp_ge (tgt := 55) hx hb dX2_bestCells_34 (by decide) (fun c_34 => ?_) (fun c_34 => absurd c_34 (fun h => h (Int32.le_refl _)))
      refine lv_aload_n hx hb dX2_bestCells_55 rfl (lv_at hl 0 rfl) ?_
      refine lv_iconst (v := 0) hx hb dX2_bestCells_56 (by decide) ?_
      refine va_put (D := D) (ci := 1) (v := .int 0) (ty := .int) (C := RX2) (T := TX2) (N := 6) hx hb hts (by decide +kernel) tyX2 tyX2_ok nmX2 hown hK hP hD hS 0 rfl rfl 1 (by decide) (hts (.fieldLink RX2 20 "Shingletrack$Channel" "samplesThere" "I") (by decide +kernel)) (fun _ h9 => h9) rfl (by decide +kernel) rfl rfl (Nat.le_of_ble_eq_true rfl) dX2_bestCells_57 (fun H locs hP hD hS => ?_)
      have hP : va_P D vwCl [(c0, .inr (1, [.ref a1, .int 0, .ref a3, .ref a5, .ref a7, .ref a9])), (a1, .inr (3, [.ref a2])), (a2, .inl (cJ, 12, .inr (.inl sa))), (a3, .inr (3, [.ref a4])), (a4, .inl (cJ, 4, .inr (.inl Q1))), (a5, .inr (3, [.ref a6])), (a6, .inl (cJ, 4, .inr (.inl Q2))), (a7, .inr (3, [.ref a8])), (a8, .inl (cJ, 4, .inr (.inl Q3))), (a9, .inr (3, [.ref a10])), (a10, .inl (cJ, 4, .inr (.inl Q4)))] H := hP
      have hD : va_D (va_A [(c0, .inr (1, [.ref a1, .int (nI cnt), .ref a3, .ref a5, .ref a7, .ref a9])), (a1, .inr (3, [.ref a2])), (a2, .inl (cJ, 12, .inr (.inl sa))), (a3, .inr (3, [.ref a4])), (a4, .inl (cJ, 4, .inr (.inl sq))), (a5, .inr (3, [.ref a6])), (a6, .inl (cJ, 4, .inr (.inl nu))), (a7, .inr (3, [.ref a8])), (a8, .inl (cJ, 4, .inr (.inl ns))), (a9, .inr (3, [.ref a10])), (a10, .inl (cJ, 4, .inr (.inl nn)))] s.heap.size) [(c0, .inr (1, [.ref a1, .int 0, .ref a3, .ref a5, .ref a7, .ref a9])), (a1, .inr (3, [.ref a2])), (a2, .inl (cJ, 12, .inr (.inl sa))), (a3, .inr (3, [.ref a4])), (a4, .inl (cJ, 4, .inr (.inl Q1))), (a5, .inr (3, [.ref a6])), (a6, .inl (cJ, 4, .inr (.inl Q2))), (a7, .inr (3, [.ref a8])), (a8, .inl (cJ, 4, .inr (.inl Q3))), (a9, .inr (3, [.ref a10])), (a10, .inl (cJ, 4, .inr (.inl Q4)))] := hD
      refine lv_iconst (v := 0) hx hb dX2_bestCells_60 (by decide) ?_
      refine lv_istore_n (lv' := [(1, .int 0), (0, .ref c0)]) hx hb dX2_bestCells_61 rfl hl (by decide) rfl (fun ls hl => ?_)
      refine lv_iconst (v := 1) hx hb dX2_bestCells_62 (by decide) ?_
      refine lv_istore_n (lv' := [(2, .int 1), (1, .int 0), (0, .ref c0)]) hx hb dX2_bestCells_63 rfl hl (by decide) rfl (fun ls hl => ?_)
      exact l2 3 1 0 rfl rfl _ _ ls hP hD hS (lv_sub hl [2, 1, 0] rfl)
    | succ n ih =>
      intro k f1 f2 f3 f4 hk_l1  hres_l1 H locs ls hP hD hS hl
      refine lv_iload_n hx hb dX2_bestCells_29 rfl (lv_at hl 1 rfl) ?_
      refine lv_aload_n hx hb dX2_bestCells_30 rfl (lv_at hl 0 rfl) ?_
      refine va_get (D := D) (ci := 1) (v := .int (nI cnt)) (C := RX2) (T := TX2) (N := 6) hx hb hts (by decide +kernel) hown hK hP 0 rfl rfl 1 (by decide) (hts (.fieldLink RX2 20 "Shingletrack$Channel" "samplesThere" "I") (by decide +kernel)) (fun _ h9 => h9) rfl dX2_bestCells_31 ?_
      refine lv_icmp_ge (tgt := 55) hx hb dX2_bestCells_34 (by decide) (fun c_34 => absurd c_34 (nI_ge (a := k) (b := cnt) (by omega) (by omega))) (fun c_34 => ?_)
      refine lv_aload_n hx hb dX2_bestCells_37 rfl (lv_at hl 0 rfl) ?_
      refine lv_aload_n hx hb dX2_bestCells_38 rfl (lv_at hl 0 rfl) ?_
      refine va_get (D := D) (ci := 1) (v := .ref a1) (C := RX2) (T := TX2) (N := 6) hx hb hts (by decide +kernel) hown hK hP 0 rfl rfl 0 (by decide) (hts (.fieldLink RX2 14 "Shingletrack$Channel" "samples" "LShingletrack$Row;") (by decide +kernel)) (fun _ h9 => h9) rfl dX2_bestCells_39 ?_
      refine lv_iload_n hx hb dX2_bestCells_42 rfl (lv_at hl 1 rfl) ?_
      refine ru_calll (As := [.int (nI k)]) (rest := [.ref c0]) ⟨hx, hb, hml, hown, hts⟩ (c_X4_at l D cJ a1 a2 12 (by decide) sa (nI k)) (cwV 1 hts gX2_bestCells_X4_at rfl rfl rfl (by decide +kernel) ⟨(Nat.le_of_ble_eq_true rfl), (Nat.le_of_ble_eq_true rfl)⟩) (va_recv hK hP (ci := 3) (q0 := 1) rfl rfl) rfl hl.1 (lv_room (Nat.le_of_ble_eq_true rfl)) dX2_bestCells_43 ⟨(Nat.le_of_ble_eq_true rfl), (Nat.le_of_ble_eq_true rfl)⟩ hS hA rfl hK (hP.sub [1, 2] rfl) (fun locs hS => ?_)
      refine wu_callv (wr := [(a1, .inr (3, [.ref a2])), (a2, .inl (cJ, 12, .inr (.inl sa)))]) (wn := [(c0, .inr (1, [.ref a1, .int (nI cnt), .ref a3, .ref a5, .ref a7, .ref a9])), (a1, .inr (3, [.ref a2])), (a2, .inl (cJ, 12, .inr (.inl sa))), (a3, .inr (3, [.ref a4])), (a4, .inl (cJ, 4, .inr (.inl (kCp ((kSt (fAt 12 sa (nI k)) f1 f2 4 0 (fFil f3 1000000 4) (fFil f4 0 4)).1) 4 0 f1)))), (a5, .inr (3, [.ref a6])), (a6, .inl (cJ, 4, .inr (.inl (kCp ((kSt (fAt 12 sa (nI k)) f1 f2 4 0 (fFil f3 1000000 4) (fFil f4 0 4)).2) 4 0 f2)))), (a7, .inr (3, [.ref a8])), (a8, .inl (cJ, 4, .inr (.inl ((kSt (fAt 12 sa (nI k)) f1 f2 4 0 (fFil f3 1000000 4) (fFil f4 0 4)).1)))), (a9, .inr (3, [.ref a10])), (a10, .inl (cJ, 4, .inr (.inl ((kSt (fAt 12 sa (nI k)) f1 f2 4 0 (fFil f3 1000000 4) (fFil f4 0 4)).2))))]) (As := [.long (fAt 12 sa (nI k))]) (rest := []) ⟨hx, hb, hml, hown, hts⟩ (c_X2_goOn l D cJ c0 a1 a3 a4 a5 a6 a7 a8 a9 a10 (nI cnt) f1 f2 f3 f4 ((kSt (fAt 12 sa (nI k)) f1 f2 4 0 (fFil f3 1000000 4) (fFil f4 0 4)).1) ((kSt (fAt 12 sa (nI k)) f1 f2 4 0 (fFil f3 1000000 4) (fFil f4 0 4)).2) (fAt 12 sa (nI k)) (pe _)) (cwV 1 hts gX2_bestCells_X2_goOn rfl rfl rfl (by decide +kernel) ⟨(Nat.le_of_ble_eq_true rfl), (Nat.le_of_ble_eq_true rfl)⟩) (va_recv hK hP (ci := 1) (q0 := 0) rfl rfl) rfl hl.1 (lv_room (Nat.le_of_ble_eq_true rfl)) dX2_bestCells_46 ⟨(Nat.le_of_ble_eq_true rfl), (Nat.le_of_ble_eq_true rfl)⟩ hS hA rfl hK hP hD [0, 3, 4, 5, 6, 7, 8, 9, 10] [1, 2] [2, 0, 1, 3, 4, 5, 6, 7, 8, 9, 10] rfl rfl (by decide) rfl (by decide) (by decide) rfl rfl (by decide) (fun H locs hP hD hS => ?_)
      refine lv_iinc (v := nI (k + 1)) (lv' := [(1, .int (nI (k + 1))), (0, .ref c0)]) hx hb dX2_bestCells_49 hl (k := 1) rfl (nI_1 _) (by decide) rfl (fun ls hl => ?_)
      refine lv_goto (tgt := 29) hx hb dX2_bestCells_52 (by decide) ?_
      exact ih (k + 1) _ _ _ _ (by omega) (by rw [kRun] at hres_l1; exact hres_l1) _ _ ls hP hD hS (lv_sub hl [1, 0] rfl)
  refine lv_aload_n hx hb dX2_bestCells_0 rfl (lv_at hl 0 rfl) ?_
  refine va_get (D := D) (ci := 1) (v := .ref a3) (C := RX2) (T := TX2) (N := 6) hx hb hts (by decide +kernel) hown hK hP 0 rfl rfl 2 (by decide) (hts (.fieldLink RX2 24 "Shingletrack$Channel" "squares" "LShingletrack$Row;") (by decide +kernel)) (fun _ h9 => h9) rfl dX2_bestCells_1 ?_
  refine lv_ldc2 (v := 1000000) hx hb hown (hts (.constantLong RX2 40 1000000) (by decide +kernel)) dX2_bestCells_4 ?_
  refine wu_callv (wr := [(c0, .inr (1, [.ref a1, .int (nI cnt), .ref a3, .ref a5, .ref a7, .ref a9])), (a1, .inr (3, [.ref a2])), (a2, .inl (cJ, 12, .inr (.inl sa))), (a5, .inr (3, [.ref a6])), (a6, .inl (cJ, 4, .inr (.inl nu))), (a7, .inr (3, [.ref a8])), (a8, .inl (cJ, 4, .inr (.inl ns))), (a9, .inr (3, [.ref a10])), (a10, .inl (cJ, 4, .inr (.inl nn)))]) (wn := [(c0, .inr (1, [.ref a1, .int (nI cnt), .ref a3, .ref a5, .ref a7, .ref a9])), (a1, .inr (3, [.ref a2])), (a2, .inl (cJ, 12, .inr (.inl sa))), (a3, .inr (3, [.ref a4])), (a4, .inl (cJ, 4, .inr (.inl (fFil sq 1000000 4)))), (a5, .inr (3, [.ref a6])), (a6, .inl (cJ, 4, .inr (.inl nu))), (a7, .inr (3, [.ref a8])), (a8, .inl (cJ, 4, .inr (.inl ns))), (a9, .inr (3, [.ref a10])), (a10, .inl (cJ, 4, .inr (.inl nn)))]) (As := [.long 1000000]) (rest := []) ⟨hx, hb, hml, hown, hts⟩ (c_X4_fill l D cJ a3 a4 4 (by decide) sq 1000000) (cwV 1 hts gX2_bestCells_X4_fill rfl rfl rfl (by decide +kernel) ⟨(Nat.le_of_ble_eq_true rfl), (Nat.le_of_ble_eq_true rfl)⟩) (va_recv hK hP (ci := 3) (q0 := 3) rfl rfl) rfl hl.1 (lv_room (Nat.le_of_ble_eq_true rfl)) dX2_bestCells_7 ⟨(Nat.le_of_ble_eq_true rfl), (Nat.le_of_ble_eq_true rfl)⟩ hS hA rfl hK hP hD [3, 4] [0, 1, 2, 5, 6, 7, 8, 9, 10] [0, 1, 2, 9, 10, 3, 4, 5, 6, 7, 8] rfl rfl (by decide) rfl (by decide) (by decide) rfl rfl (by decide) (fun H locs hP hD hS => ?_)
  refine lv_aload_n hx hb dX2_bestCells_10 rfl (lv_at hl 0 rfl) ?_
  refine va_get (D := D) (ci := 1) (v := .ref a5) (C := RX2) (T := TX2) (N := 6) hx hb hts (by decide +kernel) hown hK hP 0 rfl rfl 3 (by decide) (hts (.fieldLink RX2 27 "Shingletrack$Channel" "numbers" "LShingletrack$Row;") (by decide +kernel)) (fun _ h9 => h9) rfl dX2_bestCells_11 ?_
  refine lv_lconst (v := 0) hx hb dX2_bestCells_14 (by decide) ?_
  refine wu_callv (wr := [(c0, .inr (1, [.ref a1, .int (nI cnt), .ref a3, .ref a5, .ref a7, .ref a9])), (a1, .inr (3, [.ref a2])), (a2, .inl (cJ, 12, .inr (.inl sa))), (a3, .inr (3, [.ref a4])), (a4, .inl (cJ, 4, .inr (.inl (fFil sq 1000000 4)))), (a7, .inr (3, [.ref a8])), (a8, .inl (cJ, 4, .inr (.inl ns))), (a9, .inr (3, [.ref a10])), (a10, .inl (cJ, 4, .inr (.inl nn)))]) (wn := [(c0, .inr (1, [.ref a1, .int (nI cnt), .ref a3, .ref a5, .ref a7, .ref a9])), (a1, .inr (3, [.ref a2])), (a2, .inl (cJ, 12, .inr (.inl sa))), (a3, .inr (3, [.ref a4])), (a4, .inl (cJ, 4, .inr (.inl (fFil sq 1000000 4)))), (a5, .inr (3, [.ref a6])), (a6, .inl (cJ, 4, .inr (.inl (fFil nu 0 4)))), (a7, .inr (3, [.ref a8])), (a8, .inl (cJ, 4, .inr (.inl ns))), (a9, .inr (3, [.ref a10])), (a10, .inl (cJ, 4, .inr (.inl nn)))]) (As := [.long 0]) (rest := []) ⟨hx, hb, hml, hown, hts⟩ (c_X4_fill l D cJ a5 a6 4 (by decide) nu 0) (cwV 1 hts gX2_bestCells_X4_fill rfl rfl rfl (by decide +kernel) ⟨(Nat.le_of_ble_eq_true rfl), (Nat.le_of_ble_eq_true rfl)⟩) (va_recv hK hP (ci := 3) (q0 := 5) rfl rfl) rfl hl.1 (lv_room (Nat.le_of_ble_eq_true rfl)) dX2_bestCells_15 ⟨(Nat.le_of_ble_eq_true rfl), (Nat.le_of_ble_eq_true rfl)⟩ hS hA rfl hK hP hD [5, 6] [0, 1, 2, 3, 4, 7, 8, 9, 10] [0, 1, 2, 3, 4, 9, 10, 5, 6, 7, 8] rfl rfl (by decide) rfl (by decide) (by decide) rfl rfl (by decide) (fun H locs hP hD hS => ?_)
  refine lv_aload_n hx hb dX2_bestCells_18 rfl (lv_at hl 0 rfl) ?_
  refine va_get (D := D) (ci := 1) (v := .ref a3) (C := RX2) (T := TX2) (N := 6) hx hb hts (by decide +kernel) hown hK hP 0 rfl rfl 2 (by decide) (hts (.fieldLink RX2 24 "Shingletrack$Channel" "squares" "LShingletrack$Row;") (by decide +kernel)) (fun _ h9 => h9) rfl dX2_bestCells_19 ?_
  refine lv_iconst (v := 0) hx hb dX2_bestCells_22 (by decide) ?_
  refine lv_lconst (v := 0) hx hb dX2_bestCells_23 (by decide) ?_
  refine wu_callv (wr := [(c0, .inr (1, [.ref a1, .int (nI cnt), .ref a3, .ref a5, .ref a7, .ref a9])), (a1, .inr (3, [.ref a2])), (a2, .inl (cJ, 12, .inr (.inl sa))), (a5, .inr (3, [.ref a6])), (a6, .inl (cJ, 4, .inr (.inl (fFil nu 0 4)))), (a7, .inr (3, [.ref a8])), (a8, .inl (cJ, 4, .inr (.inl ns))), (a9, .inr (3, [.ref a10])), (a10, .inl (cJ, 4, .inr (.inl nn)))]) (wn := [(c0, .inr (1, [.ref a1, .int (nI cnt), .ref a3, .ref a5, .ref a7, .ref a9])), (a1, .inr (3, [.ref a2])), (a2, .inl (cJ, 12, .inr (.inl sa))), (a3, .inr (3, [.ref a4])), (a4, .inl (cJ, 4, .inr (.inl (fPut 4 (fFil sq 1000000 4) 0 0)))), (a5, .inr (3, [.ref a6])), (a6, .inl (cJ, 4, .inr (.inl (fFil nu 0 4)))), (a7, .inr (3, [.ref a8])), (a8, .inl (cJ, 4, .inr (.inl ns))), (a9, .inr (3, [.ref a10])), (a10, .inl (cJ, 4, .inr (.inl nn)))]) (As := [.int 0, .long 0]) (rest := []) ⟨hx, hb, hml, hown, hts⟩ (c_X4_put l D cJ a3 a4 4 (by decide) (fFil sq 1000000 4) 0 0) (cwV 2 hts gX2_bestCells_X4_put rfl rfl rfl (by decide +kernel) ⟨(Nat.le_of_ble_eq_true rfl), (Nat.le_of_ble_eq_true rfl)⟩) (va_recv hK hP (ci := 3) (q0 := 3) rfl rfl) rfl hl.1 (lv_room (Nat.le_of_ble_eq_true rfl)) dX2_bestCells_24 ⟨(Nat.le_of_ble_eq_true rfl), (Nat.le_of_ble_eq_true rfl)⟩ hS hA rfl hK hP hD [3, 4] [0, 1, 2, 5, 6, 7, 8, 9, 10] [0, 1, 2, 9, 10, 3, 4, 5, 6, 7, 8] rfl rfl (by decide) rfl (by decide) (by decide) rfl rfl (by decide) (fun H locs hP hD hS => ?_)
  refine lv_iconst (v := 0) hx hb dX2_bestCells_27 (by decide) ?_
  refine lv_istore_n (lv' := [(1, .int 0), (0, .ref c0)]) hx hb dX2_bestCells_28 rfl hl (by decide) rfl (fun ls hl => ?_)
  exact l1 cnt 0 _ _ _ _ (Nat.zero_add cnt) hQ _ _ ls hP hD hS (lv_sub hl [1, 0] rfl)
end
section
/-! isSound on a disk on which nothing was written: what it reads -/
def rcK_i (l : Launch) (y : MethodName) (ws : List Cond) (rm : Room) (av : List Value) (D : va_G) (cJ : ClassId) (w : va_W) (K : State → Prop) (f : Int32) : Prop := ∀ H0 : Heap, Met l y ws rm (va_Pc av (fun U => U.heap = H0 ∧ va_P D vwCl w U.heap ∧ va_K D vwCl [(cJ, .long)] U ∧ K U)) (va_Qi (fun (r : Int32) (_ : Unit) => r = f) (fun _ t => t.heap = H0) (fun q => H0.size ≤ q)) 0 0 (fun q => H0.size ≤ q)
def nkZone (U : State) : Prop := va_Nw (.fieldLinkNest RX8 151 "Shingletrack$Platter" "zone" "LShingletrack$Store;" "Shingletrack") U
theorem nkZone_warm {s U : State} (hW : s.WarmedH U.vm) (h : nkZone s) : nkZone U := va_Nw.warmF hW h
theorem nkZone_same {u U : State} (h : u.vm = U.vm) (hk : nkZone u) : nkZone U := va_Nw.same rfl h hk
section HZ
variable {p : Program} {l : Launch} {e : Env} {R : Room} {s : State} {m : MethodId} {args : Array Value} {below : List Frame} {meth : Method} {c : Code} {H : Heap} {locs : List Loc} {cells slots : Nat} {Q : State → Prop}
variable {y : MethodName} {bytes cc : ByteArray} {maxL nL n index : Nat} {ret : Option FieldType} {ws : List Cond} {rm : Room} {Ts : List Cond} {own C : String} {As rest : List Value} {pc : Nat} {ls : Array Slot} {st0 : List Value} {A0 : Nat → Prop} {H0 : Heap} {b : Nat} {D : va_G} {cJ : ClassId} {w : va_W}
theorem ruK_calli {K : State → Prop} {f : Int32} (S : CallFix p m c cc nL s args Ts own) (hM : rcK_i l y ws rm (.ref b :: As) D cJ w K f) (hbl : ∀ (U : State) (g : JFrame) (mk : MethodId) (a : Array Value), K U → K (U.calling g mk a)) (hKs : ∀ U : State, s.WarmedH U.vm → K U) (cw : CallW R s args own C index y bytes maxL ret ws rm 0 0 n) (hrec : ∃ cellB : Cell, H[b]? = some cellB ∧ cellB.vm.isStatics = false ∧ s.vm.findClass C = some cellB.cls) (hn : As.length = n) (hsize : ls.size = nL)
    (hW : 2 * (F0 m pc ls st0).monitorRoom + (rest.map fun v => v.category).sum ≤ 8) (hdg : decode cc pc = .ok (.invokevirtual index, 3)) (hf : cells + 0 ≤ R.cells ∧ slots + 0 ≤ R.slots) (hS : va_S A0 H0 H locs) (hA : ∀ q, H0.size ≤ q → A0 q) (hst : st0 = As.reverse ++ .ref b :: rest) (hK : va_K D vwCl [(cJ, .long)] s) (hP : va_P D vwCl w H)
    (kk : ∀ locs1 : List Loc, va_S A0 H0 H locs1 → W p l e R s m args below meth c H locs1 cells slots Q (F0 m (pc + 3) ls (.int f :: rest))) : W p l e R s m args below meth c H locs cells slots Q (F0 m pc ls st0) := by
  refine va_calli (A1 := fun q => H.size ≤ q) (va_runV S (hM H) cw ⟨fun a U g mk q => ⟨q.1, q.2.1, q.2.2.1, va_K.moved (u := U) (U := U.calling g mk a) (Vm.Alike.refl U.vm) q.2.2.2.1, hbl U g mk a q.2.2.2.2⟩, hrec, fun U hU hW => ⟨rfl, hU, by rw [hU]; exact hP, va_K.moved hW.alike hK, hKs U hW⟩⟩ rfl hn hsize hst hW hdg hf) hS (fun q h1 h2 => absurd h1 (Nat.not_lt.mpr h2)) (fun q h => hA q (Nat.le_trans hS.1 h)) (fun r u t H1 locs1 ht hvm hp hB hz hk hS1 => ?_)
  have e1 : H1 = H := ht.symm.trans hB
  subst e1
  have e2 : r = f := hp
  subst e2
  exact kk locs1 hS1
end HZ
set_option maxHeartbeats 4000000 in
set_option maxRecDepth 100000 in
theorem c_X6_has (l : Launch) (D : va_G) (cJ : ClassId) (h0 wd wk a : Nat) (f : Nat → Int64) (i : Int32) : rc_i l yX6_has wsX6_has ({ frames := 1, cells := 0, slots := 0, locals := 21 } : Room) [.ref h0, .int i] D cJ [(h0, .inr (5, [.ref wd, .ref wk])), (wd, .inr (3, [.ref a])), (a, .inl (cJ, 60, .inr (.inl f)))] (if fAt 60 f i = -1 then 0 else 1) := by
  intro H0
  refine Met.ofW (cc := cX6_has) (maxL := 2) (ret := (some .boolean)) (by decide) rfl ?_
  intro p e s m args below meth c s₁ B hml hv
  obtain ⟨rfl, rfl, hP, hK⟩ := hv
  have hx := B.exec
  have hb := B.bytes
  have hr := B.returns
  have hts := atoms_spec (ws := wsX6_has) B.pre
  have hown : s.vm.findClass RX6 = some m.cls := findClass_of_methodNamed B.named
  have hlocks := B.notSynchronized
  have hS : va_S (fun q => s.heap.size ≤ q) s.heap s.heap [] := va_S.rf
  have hA : ∀ q : Nat, s.heap.size ≤ q → (fun q : Nat => s.heap.size ≤ q) q := fun _ h => h
  have hl := lv_entry ([.ref h0, .int i]) (n := 2) (Nat.le_of_ble_eq_true rfl)
  rw [lg_entry_eq]
  generalize (lg_sl ([.ref h0, .int i]) ++ List.replicate (2 - (lg_sl ([.ref h0, .int i])).length) Slot.unset).toArray = ls at hl ⊢
  have hl : lv_has ls 2 [(0, .ref h0), (1, .int i)] := hl
  refine lv_aload_n hx hb dX6_has_0 rfl (lv_at hl 0 rfl) ?_
  refine va_get (D := D) (ci := 5) (v := .ref wd) (C := RX6) (T := TX6) (N := 2) hx hb hts (by decide +kernel) hown hK hP 0 rfl rfl 0 (by decide) (hts (.fieldLink RX6 14 "Shingletrack$Store" "words" "LShingletrack$Row;") (by decide +kernel)) (fun _ h9 => h9) rfl dX6_has_1 ?_
  refine lv_iload_n hx hb dX6_has_4 rfl (lv_at hl 1 rfl) ?_
  refine ru_calll (As := [.int i]) (rest := []) ⟨hx, hb, hml, hown, hts⟩ (c_X4_at l D cJ wd a 60 (by decide) f i) (cwV 1 hts gX6_has_X4_at rfl rfl rfl (by decide +kernel) ⟨(Nat.le_of_ble_eq_true rfl), (Nat.le_of_ble_eq_true rfl)⟩) (va_recv hK hP (ci := 3) (q0 := 1) rfl rfl) rfl hl.1 (lv_room (Nat.le_of_ble_eq_true rfl)) dX6_has_5 ⟨(Nat.le_of_ble_eq_true rfl), (Nat.le_of_ble_eq_true rfl)⟩ hS hA rfl hK (hP.sub [1, 2] rfl) (fun locs hS => ?_)
  refine lv_ldc2 (v := (-1)) hx hb hown (hts (.constantLong RX6 23 (-1)) (by decide +kernel)) dX6_has_8 ?_
  refine W.lcmp hx hb dX6_has_11 ?_
  refine lv_if_eq (tgt := 19) hx hb dX6_has_12 (by decide) (fun c_12 => ?_) (fun c_12 => ?_)
  · refine lv_iconst (v := 0) hx hb dX6_has_19 (by decide) ?_
    exact W.zret (v := 0) hx hb hr (by first | rfl | decide) (fun t ht hW => ⟨⟨0, (), rfl, (if_pos ((lg_cmp_eq _ _).mp c_12)).symm, ht⟩, hS.F ht⟩) hS.2.2 dX6_has_20
  · refine lv_iconst (v := 1) hx hb dX6_has_15 (by decide) ?_
    refine lv_goto (tgt := 20) hx hb dX6_has_16 (by decide) ?_
    exact W.zret (v := 1) hx hb hr (by first | rfl | decide) (fun t ht hW => ⟨⟨1, (), rfl, (if_neg (fun h => c_12 ((lg_cmp_eq _ _).mpr h))).symm, ht⟩, hS.F ht⟩) hS.2.2 dX6_has_20
set_option maxHeartbeats 4000000 in
set_option maxRecDepth 100000 in
theorem c_X6_size (l : Launch) (D : va_G) (cJ : ClassId) (h0 wd wk a : Nat) (f : Nat → Int64) (hf : ∀ k, k < 60 → fAt 60 f (nI k) = -1) : rc_i l yX6_size wsX6_size ({ frames := 2, cells := 0, slots := 0, locals := 42 } : Room) [.ref h0] D cJ [(h0, .inr (5, [.ref wd, .ref wk])), (wd, .inr (3, [.ref a])), (a, .inl (cJ, 60, .inr (.inl f)))] 0 := by
  intro H0
  refine Met.ofW (cc := cX6_size) (maxL := 3) (ret := (some .int)) (by decide) rfl ?_
  intro p e s m args below meth c s₁ B hml hv
  obtain ⟨rfl, rfl, hP, hK⟩ := hv
  have hx := B.exec
  have hb := B.bytes
  have hr := B.returns
  have hts := atoms_spec (ws := wsX6_size) B.pre
  have hown : s.vm.findClass RX6 = some m.cls := findClass_of_methodNamed B.named
  have hlocks := B.notSynchronized
  have hS : va_S (fun q => s.heap.size ≤ q) s.heap s.heap [] := va_S.rf
  have hA : ∀ q : Nat, s.heap.size ≤ q → (fun q : Nat => s.heap.size ≤ q) q := fun _ h => h
  have hl := lv_entry ([.ref h0]) (n := 3) (Nat.le_of_ble_eq_true rfl)
  rw [lg_entry_eq]
  generalize (lg_sl ([.ref h0]) ++ List.replicate (3 - (lg_sl ([.ref h0])).length) Slot.unset).toArray = ls at hl ⊢
  have hl : lv_has ls 3 [(0, .ref h0)] := hl
  have l1 : ∀ (n k : Nat) , k + n = 60 → ∀ (locs : List Loc) (ls : Array Slot), va_S (fun q => s.heap.size ≤ q) s.heap s.heap locs → lv_has ls 3 [(0, .ref h0), (1, .int 0), (2, .int (nI k))] → W p l e (headSpec wsX6_size ({ frames := 2, cells := 0, slots := 0, locals := 42 } : Room)).room s m ([.ref h0] : List Value).toArray below meth c s.heap locs 0 0 (MQ below (va_Qi (fun (r : Int32) (_ : Unit) => r = 0) (fun _ t => t.heap = s.heap) (fun q => s.heap.size ≤ q)) ([.ref h0] : List Value).toArray s 0 0 (fun q => s.heap.size ≤ q)) (F0 m 4 ls []) := by
    intro n
    induction n with
    | zero =>
      intro k  hk_l1   locs ls hS hl
      obtain rfl : k = 60 := by omega
      refine lv_iload_n hx hb dX6_size_4 rfl (lv_at hl 2 rfl) ?_
      refine lv_bipush (v := 60) hx hb dX6_size_5 (by decide) ?_
      refine lv_icmp_ge (tgt := 27) hx hb dX6_size_7 (by decide) (fun c_7 => ?_) (fun c_7 => absurd c_7 (by decide))
      refine lv_iload_n hx hb dX6_size_27 rfl (lv_at hl 1 rfl) ?_
      exact W.iret (v := 0) hx hb hr (fun t ht hW => ⟨⟨0, (), rfl, rfl, ht⟩, hS.F ht⟩) hS.2.2 dX6_size_28
    | succ n ih =>
      intro k  hk_l1   locs ls hS hl
      refine lv_iload_n hx hb dX6_size_4 rfl (lv_at hl 2 rfl) ?_
      refine lv_bipush (v := 60) hx hb dX6_size_5 (by decide) ?_
      refine lv_icmp_ge (tgt := 27) hx hb dX6_size_7 (by decide) (fun c_7 => absurd c_7 (nI_ge (a := k) (b := 60) (by omega) (by omega))) (fun c_7 => ?_)
      refine lv_aload_n hx hb dX6_size_10 rfl (lv_at hl 0 rfl) ?_
      refine lv_iload_n hx hb dX6_size_11 rfl (lv_at hl 2 rfl) ?_
      refine ru_calli (As := [.int (nI k)]) (rest := []) ⟨hx, hb, hml, hown, hts⟩ (c_X6_has l D cJ h0 wd wk a f (nI k)) (cwV 1 hts gX6_size_X6_has rfl rfl rfl (by decide +kernel) ⟨(Nat.le_of_ble_eq_true rfl), (Nat.le_of_ble_eq_true rfl)⟩) (va_recv hK hP (ci := 5) (q0 := 0) rfl rfl) rfl hl.1 (lv_room (Nat.le_of_ble_eq_true rfl)) dX6_size_12 ⟨(Nat.le_of_ble_eq_true rfl), (Nat.le_of_ble_eq_true rfl)⟩ hS hA rfl hK (hP.sub [0, 1, 2] rfl) (fun locs hS => ?_)
      refine lv_if_eq (tgt := 21) hx hb dX6_size_15 (by decide) (fun c_15 => ?_) (fun c_15 => absurd c_15 (fun h => h (if_pos (hf k (by omega)))))
      refine lv_iinc (v := nI (k + 1)) (lv' := [(2, .int (nI (k + 1))), (0, .ref h0), (1, .int 0)]) hx hb dX6_size_21 hl (k := 2) rfl (nI_1 _) (by decide) rfl (fun ls hl => ?_)
      refine lv_goto (tgt := 4) hx hb dX6_size_24 (by decide) ?_
      exact ih (k + 1) (by omega) _ ls hS (lv_sub hl [1, 2, 0] rfl)
  refine lv_iconst (v := 0) hx hb dX6_size_0 (by decide) ?_
  refine lv_istore_n (lv' := [(1, .int 0), (0, .ref h0)]) hx hb dX6_size_1 rfl hl (by decide) rfl (fun ls hl => ?_)
  refine lv_iconst (v := 0) hx hb dX6_size_2 (by decide) ?_
  refine lv_istore_n (lv' := [(2, .int 0), (1, .int 0), (0, .ref h0)]) hx hb dX6_size_3 rfl hl (by decide) rfl (fun ls hl => ?_)
  exact l1 60 0 rfl _ ls hS (lv_sub hl [2, 1, 0] rfl)
set_option maxHeartbeats 4000000 in
set_option maxRecDepth 100000 in
theorem c_X3_keepsWhatWasSent (l : Launch) (D : va_G) (cJ : ClassId) (pl bs zo p2 p3 p4 p5 sn p7 : Nat) (a : Nat) (f : Nat → Int64) (hf : ∀ k, k < 60 → fAt 60 f (nI k) = -1) : rc_i l yX3_keepsWhatWasSent wsX3_keepsWhatWasSent ({ frames := 1, cells := 0, slots := 0, locals := 21 } : Room) [.ref pl] D cJ [(pl, .inr (2, [.ref bs, .ref zo, .ref p2, .ref p3, .ref p4, .ref p5, .ref sn, .ref p7, .int 0, .int 0, .int 0, .int 0, .int 0])), (sn, .inr (3, [.ref a])), (a, .inl (cJ, 60, .inr (.inl f)))] 1 := by
  intro H0
  refine Met.ofW (cc := cX3_keepsWhatWasSent) (maxL := 3) (ret := (some .boolean)) (by decide) rfl ?_
  intro p e s m args below meth c s₁ B hml hv
  obtain ⟨rfl, rfl, hP, hK⟩ := hv
  have hx := B.exec
  have hb := B.bytes
  have hr := B.returns
  have hts := atoms_spec (ws := wsX3_keepsWhatWasSent) B.pre
  have hown : s.vm.findClass RX3 = some m.cls := findClass_of_methodNamed B.named
  have hlocks := B.notSynchronized
  have hS : va_S (fun q => s.heap.size ≤ q) s.heap s.heap [] := va_S.rf
  have hA : ∀ q : Nat, s.heap.size ≤ q → (fun q : Nat => s.heap.size ≤ q) q := fun _ h => h
  have hl := lv_entry ([.ref pl]) (n := 3) (Nat.le_of_ble_eq_true rfl)
  rw [lg_entry_eq]
  generalize (lg_sl ([.ref pl]) ++ List.replicate (3 - (lg_sl ([.ref pl])).length) Slot.unset).toArray = ls at hl ⊢
  have hl : lv_has ls 3 [(0, .ref pl)] := hl
  have l1 : ∀ (n k : Nat) , k + n = 60 → ∀ (locs : List Loc) (ls : Array Slot), va_S (fun q => s.heap.size ≤ q) s.heap s.heap locs → lv_has ls 3 [(0, .ref pl), (1, .int (nI k))] → W p l e (headSpec wsX3_keepsWhatWasSent ({ frames := 1, cells := 0, slots := 0, locals := 21 } : Room)).room s m ([.ref pl] : List Value).toArray below meth c s.heap locs 0 0 (MQ below (va_Qi (fun (r : Int32) (_ : Unit) => r = 1) (fun _ t => t.heap = s.heap) (fun q => s.heap.size ≤ q)) ([.ref pl] : List Value).toArray s 0 0 (fun q => s.heap.size ≤ q)) (F0 m 2 ls []) := by
    intro n
    induction n with
    | zero =>
      intro k  hk_l1   locs ls hS hl
      obtain rfl : k = 60 := by omega
      refine lv_iload_n hx hb dX3_keepsWhatWasSent_2 rfl (lv_at hl 1 rfl) ?_
      refine lv_bipush (v := 60) hx hb dX3_keepsWhatWasSent_3 (by decide) ?_
      refine lv_icmp_ge (tgt := 71) hx hb dX3_keepsWhatWasSent_5 (by decide) (fun c_5 => ?_) (fun c_5 => absurd c_5 (by decide))
      refine lv_iconst (v := 1) hx hb dX3_keepsWhatWasSent_71 (by decide) ?_
      exact W.zret (v := 1) hx hb hr (by first | rfl | decide) (fun t ht hW => ⟨⟨1, (), rfl, rfl, ht⟩, hS.F ht⟩) hS.2.2 dX3_keepsWhatWasSent_72
    | succ n ih =>
      intro k  hk_l1   locs ls hS hl
      refine lv_iload_n hx hb dX3_keepsWhatWasSent_2 rfl (lv_at hl 1 rfl) ?_
      refine lv_bipush (v := 60) hx hb dX3_keepsWhatWasSent_3 (by decide) ?_
      refine lv_icmp_ge (tgt := 71) hx hb dX3_keepsWhatWasSent_5 (by decide) (fun c_5 => absurd c_5 (nI_ge (a := k) (b := 60) (by omega) (by omega))) (fun c_5 => ?_)
      refine lv_aload_n hx hb dX3_keepsWhatWasSent_8 rfl (lv_at hl 0 rfl) ?_
      refine va_get (D := D) (ci := 2) (v := .ref sn) (C := RX3) (T := TX3) (N := 13) hx hb hts (by decide +kernel) hown hK hP 0 rfl rfl 6 (by decide) (hts (.fieldLink RX3 39 "Shingletrack$Platter" "lastSent" "LShingletrack$Row;") (by decide +kernel)) (fun _ h9 => h9) rfl dX3_keepsWhatWasSent_9 ?_
      refine lv_iload_n hx hb dX3_keepsWhatWasSent_12 rfl (lv_at hl 1 rfl) ?_
      refine ru_calll (As := [.int (nI k)]) (rest := []) ⟨hx, hb, hml, hown, hts⟩ (c_X4_at l D cJ sn a 60 (by decide) f (nI k)) (cwV 1 hts gX3_keepsWhatWasSent_X4_at rfl rfl rfl (by decide +kernel) ⟨(Nat.le_of_ble_eq_true rfl), (Nat.le_of_ble_eq_true rfl)⟩) (va_recv hK hP (ci := 3) (q0 := 1) rfl rfl) rfl hl.1 (lv_room (Nat.le_of_ble_eq_true rfl)) dX3_keepsWhatWasSent_13 ⟨(Nat.le_of_ble_eq_true rfl), (Nat.le_of_ble_eq_true rfl)⟩ hS hA rfl hK (hP.sub [1, 2] rfl) (fun locs hS => ?_)
      refine lv_ldc2 (v := (-1)) hx hb hown (hts (.constantLong RX3 62 (-1)) (by decide +kernel)) dX3_keepsWhatWasSent_16 ?_
      refine W.lcmp hx hb dX3_keepsWhatWasSent_19 ?_
      refine lv_if_eq (tgt := 49) hx hb dX3_keepsWhatWasSent_20 (by decide) (fun c_20 => ?_) (fun c_20 => absurd c_20 (fun h => h ((lg_cmp_eq _ _).mpr (hf k (by omega)))))
      refine lv_iconst (v := 0) hx hb dX3_keepsWhatWasSent_49 (by decide) ?_
      refine lv_istore_n (lv' := [(2, .int 0), (0, .ref pl), (1, .int (nI k))]) hx hb dX3_keepsWhatWasSent_50 rfl hl (by decide) rfl (fun ls hl => ?_)
      refine lv_iload_n hx hb dX3_keepsWhatWasSent_51 rfl (lv_at hl 0 rfl) ?_
      refine lv_if_eq (tgt := 65) hx hb dX3_keepsWhatWasSent_52 (by decide) (fun c_52 => ?_) (fun c_52 => absurd c_52 (by decide))
      refine lv_iinc (v := nI (k + 1)) (lv' := [(1, .int (nI (k + 1))), (2, .int 0), (0, .ref pl)]) hx hb dX3_keepsWhatWasSent_65 hl (k := 2) rfl (nI_1 _) (by decide) rfl (fun ls hl => ?_)
      refine lv_goto (tgt := 2) hx hb dX3_keepsWhatWasSent_68 (by decide) ?_
      exact ih (k + 1) (by omega) _ ls hS (lv_sub hl [2, 0] rfl)
  refine lv_iconst (v := 0) hx hb dX3_keepsWhatWasSent_0 (by decide) ?_
  refine lv_istore_n (lv' := [(1, .int 0), (0, .ref pl)]) hx hb dX3_keepsWhatWasSent_1 rfl hl (by decide) rfl (fun ls hl => ?_)
  exact l1 60 0 rfl _ ls hS (lv_sub hl [1, 0] rfl)
set_option maxHeartbeats 4000000 in
set_option maxRecDepth 100000 in
theorem c_X3_endsHold (l : Launch) (D : va_G) (cJ : ClassId) (pl bs zo p2 p3 p4 p5 sn p7 : Nat) (wd wk a : Nat) (f : Nat → Int64) (hf : ∀ k, k < 60 → fAt 60 f (nI k) = -1) : rc_i l yX3_endsHold wsX3_endsHold ({ frames := 2, cells := 0, slots := 0, locals := 42 } : Room) [.ref pl] D cJ [(pl, .inr (2, [.ref bs, .ref zo, .ref p2, .ref p3, .ref p4, .ref p5, .ref sn, .ref p7, .int 0, .int 0, .int 0, .int 0, .int 0])), (bs, .inr (5, [.ref wd, .ref wk])), (wd, .inr (3, [.ref a])), (a, .inl (cJ, 60, .inr (.inl f)))] 1 := by
  intro H0
  refine Met.ofW (cc := cX3_endsHold) (maxL := 2) (ret := (some .boolean)) (by decide) rfl ?_
  intro p e s m args below meth c s₁ B hml hv
  obtain ⟨rfl, rfl, hP, hK⟩ := hv
  have hx := B.exec
  have hb := B.bytes
  have hr := B.returns
  have hts := atoms_spec (ws := wsX3_endsHold) B.pre
  have hown : s.vm.findClass RX3 = some m.cls := findClass_of_methodNamed B.named
  have hlocks := B.notSynchronized
  have hS : va_S (fun q => s.heap.size ≤ q) s.heap s.heap [] := va_S.rf
  have hA : ∀ q : Nat, s.heap.size ≤ q → (fun q : Nat => s.heap.size ≤ q) q := fun _ h => h
  have hl := lv_entry ([.ref pl]) (n := 2) (Nat.le_of_ble_eq_true rfl)
  rw [lg_entry_eq]
  generalize (lg_sl ([.ref pl]) ++ List.replicate (2 - (lg_sl ([.ref pl])).length) Slot.unset).toArray = ls at hl ⊢
  have hl : lv_has ls 2 [(0, .ref pl)] := hl
  have l1 : ∀ (n k : Nat) , k + n = 60 → ∀ (locs : List Loc) (ls : Array Slot), va_S (fun q => s.heap.size ≤ q) s.heap s.heap locs → lv_has ls 2 [(0, .ref pl), (1, .int (nI k))] → W p l e (headSpec wsX3_endsHold ({ frames := 2, cells := 0, slots := 0, locals := 42 } : Room)).room s m ([.ref pl] : List Value).toArray below meth c s.heap locs 0 0 (MQ below (va_Qi (fun (r : Int32) (_ : Unit) => r = 1) (fun _ t => t.heap = s.heap) (fun q => s.heap.size ≤ q)) ([.ref pl] : List Value).toArray s 0 0 (fun q => s.heap.size ≤ q)) (F0 m 2 ls []) := by
    intro n
    induction n with
    | zero =>
      intro k  hk_l1   locs ls hS hl
      obtain rfl : k = 60 := by omega
      refine lv_iload_n hx hb dX3_endsHold_2 rfl (lv_at hl 1 rfl) ?_
      refine lv_bipush (v := 60) hx hb dX3_endsHold_3 (by decide) ?_
      refine lv_icmp_ge (tgt := 42) hx hb dX3_endsHold_5 (by decide) (fun c_5 => ?_) (fun c_5 => absurd c_5 (by decide))
      refine lv_iconst (v := 1) hx hb dX3_endsHold_42 (by decide) ?_
      exact W.zret (v := 1) hx hb hr (by first | rfl | decide) (fun t ht hW => ⟨⟨1, (), rfl, rfl, ht⟩, hS.F ht⟩) hS.2.2 dX3_endsHold_43
    | succ n ih =>
      intro k  hk_l1   locs ls hS hl
      refine lv_iload_n hx hb dX3_endsHold_2 rfl (lv_at hl 1 rfl) ?_
      refine lv_bipush (v := 60) hx hb dX3_endsHold_3 (by decide) ?_
      refine lv_icmp_ge (tgt := 42) hx hb dX3_endsHold_5 (by decide) (fun c_5 => absurd c_5 (nI_ge (a := k) (b := 60) (by omega) (by omega))) (fun c_5 => ?_)
      refine lv_aload_n hx hb dX3_endsHold_8 rfl (lv_at hl 0 rfl) ?_
      refine va_get (D := D) (ci := 2) (v := .ref bs) (C := RX3) (T := TX3) (N := 13) hx hb hts (by decide +kernel) hown hK hP 0 rfl rfl 0 (by decide) (hts (.fieldLink RX3 12 "Shingletrack$Platter" "bandStore" "LShingletrack$Store;") (by decide +kernel)) (fun _ h9 => h9) rfl dX3_endsHold_9 ?_
      refine lv_iload_n hx hb dX3_endsHold_12 rfl (lv_at hl 1 rfl) ?_
      refine ru_calli (As := [.int (nI k)]) (rest := []) ⟨hx, hb, hml, hown, hts⟩ (c_X6_has l D cJ bs wd wk a f (nI k)) (cwV 1 hts gX3_endsHold_X6_has rfl rfl rfl (by decide +kernel) ⟨(Nat.le_of_ble_eq_true rfl), (Nat.le_of_ble_eq_true rfl)⟩) (va_recv hK hP (ci := 5) (q0 := 1) rfl rfl) rfl hl.1 (lv_room (Nat.le_of_ble_eq_true rfl)) dX3_endsHold_13 ⟨(Nat.le_of_ble_eq_true rfl), (Nat.le_of_ble_eq_true rfl)⟩ hS hA rfl hK (hP.sub [1, 2, 3] rfl) (fun locs hS => ?_)
      refine lv_if_eq (tgt := 36) hx hb dX3_endsHold_16 (by decide) (fun c_16 => ?_) (fun c_16 => absurd c_16 (fun h => h (if_pos (hf k (by omega)))))
      refine lv_iinc (v := nI (k + 1)) (lv' := [(1, .int (nI (k + 1))), (0, .ref pl)]) hx hb dX3_endsHold_36 hl (k := 1) rfl (nI_1 _) (by decide) rfl (fun ls hl => ?_)
      refine lv_goto (tgt := 2) hx hb dX3_endsHold_39 (by decide) ?_
      exact ih (k + 1) (by omega) _ ls hS (lv_sub hl [1, 0] rfl)
  refine lv_iconst (v := 0) hx hb dX3_endsHold_0 (by decide) ?_
  refine lv_istore_n (lv' := [(1, .int 0), (0, .ref pl)]) hx hb dX3_endsHold_1 rfl hl (by decide) rfl (fun ls hl => ?_)
  exact l1 60 0 rfl _ ls hS (lv_sub hl [1, 0] rfl)
set_option maxHeartbeats 4000000 in
set_option maxRecDepth 100000 in
theorem c_X0_holdsEachOnce (l : Launch) (D : va_G) (cJ : ClassId) (bu b1 b2 : Nat) : rc_i l yX0_holdsEachOnce wsX0_holdsEachOnce ({ frames := 0, cells := 0, slots := 0, locals := 0 } : Room) [.ref bu] D cJ [(bu, .inr (0, [.ref b1, .ref b2, .int 0]))] 1 := by
  intro H0
  refine Met.ofW (cc := cX0_holdsEachOnce) (maxL := 2) (ret := (some .boolean)) (by decide) rfl ?_
  intro p e s m args below meth c s₁ B hml hv
  obtain ⟨rfl, rfl, hP, hK⟩ := hv
  have hx := B.exec
  have hb := B.bytes
  have hr := B.returns
  have hts := atoms_spec (ws := wsX0_holdsEachOnce) B.pre
  have hown : s.vm.findClass RX0 = some m.cls := findClass_of_methodNamed B.named
  have hlocks := B.notSynchronized
  have hS : va_S (fun q => s.heap.size ≤ q) s.heap s.heap [] := va_S.rf
  have hA : ∀ q : Nat, s.heap.size ≤ q → (fun q : Nat => s.heap.size ≤ q) q := fun _ h => h
  have hl := lv_entry ([.ref bu]) (n := 2) (Nat.le_of_ble_eq_true rfl)
  rw [lg_entry_eq]
  generalize (lg_sl ([.ref bu]) ++ List.replicate (2 - (lg_sl ([.ref bu])).length) Slot.unset).toArray = ls at hl ⊢
  have hl : lv_has ls 2 [(0, .ref bu)] := hl
  refine lv_iconst (v := 0) hx hb dX0_holdsEachOnce_0 (by decide) ?_
  refine lv_istore_n (lv' := [(1, .int 0), (0, .ref bu)]) hx hb dX0_holdsEachOnce_1 rfl hl (by decide) rfl (fun ls hl => ?_)
  refine lv_iload_n hx hb dX0_holdsEachOnce_2 rfl (lv_at hl 0 rfl) ?_
  refine lv_aload_n hx hb dX0_holdsEachOnce_3 rfl (lv_at hl 1 rfl) ?_
  refine va_get (D := D) (ci := 0) (v := .int 0) (C := RX0) (T := TX0) (N := 3) hx hb hts (by decide +kernel) hown hK hP 0 rfl rfl 2 (by decide) (hts (.fieldLink RX0 23 "Shingletrack$Buffer" "sectorsThere" "I") (by decide +kernel)) (fun _ h9 => h9) rfl dX0_holdsEachOnce_4 ?_
  refine lv_icmp_ge (tgt := 34) hx hb dX0_holdsEachOnce_7 (by decide) (fun c_7 => ?_) (fun c_7 => absurd c_7 (by decide))
  refine lv_iconst (v := 1) hx hb dX0_holdsEachOnce_34 (by decide) ?_
  exact W.zret (v := 1) hx hb hr (by first | rfl | decide) (fun t ht hW => ⟨⟨1, (), rfl, rfl, ht⟩, hS.F ht⟩) hS.2.2 dX0_holdsEachOnce_35
set_option maxHeartbeats 4000000 in
set_option maxRecDepth 100000 in
theorem c_X8_isSound (l : Launch) (D : va_G) (cJ : ClassId) (ob ch bu pl se b1 b2 bs zo p2 p3 p4 p5 sn p7 d1 k1 r1 d2 k2 r2 r3 : Nat) (f : Nat → Int64) (hf : ∀ k, k < 60 → fAt 60 f (nI k) = -1) : rcK_i l yX8_isSound wsX8_isSound ({ frames := 3, cells := 0, slots := 0, locals := 64 } : Room) [.ref ob] D cJ [(ob, .inr (6, [.ref ch, .ref bu, .ref pl, .ref se, .int 0, .int 20, .int 0, .int 0])), (bu, .inr (0, [.ref b1, .ref b2, .int 0])), (pl, .inr (2, [.ref bs, .ref zo, .ref p2, .ref p3, .ref p4, .ref p5, .ref sn, .ref p7, .int 0, .int 0, .int 0, .int 0, .int 0])), (bs, .inr (5, [.ref d1, .ref k1])), (d1, .inr (3, [.ref r1])), (r1, .inl (cJ, 60, .inr (.inl f))), (zo, .inr (5, [.ref d2, .ref k2])), (d2, .inr (3, [.ref r2])), (r2, .inl (cJ, 60, .inr (.inl f))), (sn, .inr (3, [.ref r3])), (r3, .inl (cJ, 60, .inr (.inl f)))] nkZone 1 := by
  intro H0
  refine Met.ofW (cc := cX8_isSound) (maxL := 1) (ret := (some .boolean)) (by decide) rfl ?_
  intro p e s m args below meth c s₁ B hml hv
  obtain ⟨rfl, rfl, hP, hK, hN⟩ := hv
  have hx := B.exec
  have hb := B.bytes
  have hr := B.returns
  have hts := atoms_spec (ws := wsX8_isSound) B.pre
  have hown : s.vm.findClass RX8 = some m.cls := findClass_of_methodNamed B.named
  have hlocks := B.notSynchronized
  have hS : va_S (fun q => s.heap.size ≤ q) s.heap s.heap [] := va_S.rf
  have hA : ∀ q : Nat, s.heap.size ≤ q → (fun q : Nat => s.heap.size ≤ q) q := fun _ h => h
  have hl := lv_entry ([.ref ob]) (n := 1) (Nat.le_of_ble_eq_true rfl)
  rw [lg_entry_eq]
  generalize (lg_sl ([.ref ob]) ++ List.replicate (1 - (lg_sl ([.ref ob])).length) Slot.unset).toArray = ls at hl ⊢
  have hl : lv_has ls 1 [(0, .ref ob)] := hl
  refine lv_aload_n hx hb dX8_isSound_0 rfl (lv_at hl 0 rfl) ?_
  refine va_get (D := D) (ci := 6) (v := .ref pl) (C := RX8) (T := TX8) (N := 8) hx hb hts (by decide +kernel) hown hK hP 0 rfl rfl 2 (by decide) (hts (.fieldLink RX8 26 "Shingletrack" "platter" "LShingletrack$Platter;") (by decide +kernel)) (fun _ h9 => h9) rfl dX8_isSound_1 ?_
  refine ru_calli (As := []) (rest := []) ⟨hx, hb, hml, hown, hts⟩ (c_X3_keepsWhatWasSent l D cJ pl bs zo p2 p3 p4 p5 sn p7 r3 f hf) (cwV 0 hts gX8_isSound_X3_keepsWhatWasSent rfl rfl rfl (by decide +kernel) ⟨(Nat.le_of_ble_eq_true rfl), (Nat.le_of_ble_eq_true rfl)⟩) (va_recv hK hP (ci := 2) (q0 := 2) rfl rfl) rfl hl.1 (lv_room (Nat.le_of_ble_eq_true rfl)) dX8_isSound_4 ⟨(Nat.le_of_ble_eq_true rfl), (Nat.le_of_ble_eq_true rfl)⟩ hS hA rfl hK (hP.sub [2, 9, 10] rfl) (fun locs hS => ?_)
  refine lv_if_eq (tgt := 49) hx hb dX8_isSound_7 (by decide) (fun c_7 => absurd c_7 (by decide)) (fun c_7 => ?_)
  refine lv_aload_n hx hb dX8_isSound_10 rfl (lv_at hl 0 rfl) ?_
  refine va_get (D := D) (ci := 6) (v := .ref pl) (C := RX8) (T := TX8) (N := 8) hx hb hts (by decide +kernel) hown hK hP 0 rfl rfl 2 (by decide) (hts (.fieldLink RX8 26 "Shingletrack" "platter" "LShingletrack$Platter;") (by decide +kernel)) (fun _ h9 => h9) rfl dX8_isSound_11 ?_
  refine ru_calli (As := []) (rest := []) ⟨hx, hb, hml, hown, hts⟩ (c_X3_endsHold l D cJ pl bs zo p2 p3 p4 p5 sn p7 d1 k1 r1 f hf) (cwV 0 hts gX8_isSound_X3_endsHold rfl rfl rfl (by decide +kernel) ⟨(Nat.le_of_ble_eq_true rfl), (Nat.le_of_ble_eq_true rfl)⟩) (va_recv hK hP (ci := 2) (q0 := 2) rfl rfl) rfl hl.1 (lv_room (Nat.le_of_ble_eq_true rfl)) dX8_isSound_14 ⟨(Nat.le_of_ble_eq_true rfl), (Nat.le_of_ble_eq_true rfl)⟩ hS hA rfl hK (hP.sub [2, 3, 4, 5] rfl) (fun locs hS => ?_)
  refine lv_if_eq (tgt := 49) hx hb dX8_isSound_17 (by decide) (fun c_17 => absurd c_17 (by decide)) (fun c_17 => ?_)
  refine lv_aload_n hx hb dX8_isSound_20 rfl (lv_at hl 0 rfl) ?_
  refine va_get (D := D) (ci := 6) (v := .ref bu) (C := RX8) (T := TX8) (N := 8) hx hb hts (by decide +kernel) hown hK hP 0 rfl rfl 1 (by decide) (hts (.fieldLink RX8 19 "Shingletrack" "buffer" "LShingletrack$Buffer;") (by decide +kernel)) (fun _ h9 => h9) rfl dX8_isSound_21 ?_
  refine ru_calli (As := []) (rest := []) ⟨hx, hb, hml, hown, hts⟩ (c_X0_holdsEachOnce l D cJ bu b1 b2) (cwV 0 hts gX8_isSound_X0_holdsEachOnce rfl rfl rfl (by decide +kernel) ⟨(Nat.le_of_ble_eq_true rfl), (Nat.le_of_ble_eq_true rfl)⟩) (va_recv hK hP (ci := 0) (q0 := 1) rfl rfl) rfl hl.1 (lv_room (Nat.le_of_ble_eq_true rfl)) dX8_isSound_24 ⟨(Nat.le_of_ble_eq_true rfl), (Nat.le_of_ble_eq_true rfl)⟩ hS hA rfl hK (hP.sub [1] rfl) (fun locs hS => ?_)
  refine lv_if_eq (tgt := 49) hx hb dX8_isSound_27 (by decide) (fun c_27 => absurd c_27 (by decide)) (fun c_27 => ?_)
  refine lv_aload_n hx hb dX8_isSound_30 rfl (lv_at hl 0 rfl) ?_
  refine va_get (D := D) (ci := 6) (v := .ref pl) (C := RX8) (T := TX8) (N := 8) hx hb hts (by decide +kernel) hown hK hP 0 rfl rfl 2 (by decide) (hts (.fieldLink RX8 26 "Shingletrack" "platter" "LShingletrack$Platter;") (by decide +kernel)) (fun _ h9 => h9) rfl dX8_isSound_31 ?_
  refine va_getN (D := D) (ci := 2) (v := .ref zo) (C := RX3) (T := TX3) (N := 13) hx hb hts (by decide +kernel) hown hK hP 2 rfl rfl 1 (by decide) (hN.use rfl) (fun _ h9 => h9) rfl dX8_isSound_34 ?_
  refine ru_calli (As := []) (rest := []) ⟨hx, hb, hml, hown, hts⟩ (c_X6_size l D cJ zo d2 k2 r2 f hf) (cwV 0 hts gX8_isSound_X6_size rfl rfl rfl (by decide +kernel) ⟨(Nat.le_of_ble_eq_true rfl), (Nat.le_of_ble_eq_true rfl)⟩) (va_recv hK hP (ci := 5) (q0 := 6) rfl rfl) rfl hl.1 (lv_room (Nat.le_of_ble_eq_true rfl)) dX8_isSound_37 ⟨(Nat.le_of_ble_eq_true rfl), (Nat.le_of_ble_eq_true rfl)⟩ hS hA rfl hK (hP.sub [6, 7, 8] rfl) (fun locs hS => ?_)
  refine lv_bipush (v := 10) hx hb dX8_isSound_40 (by decide) ?_
  refine lv_icmp_gt (tgt := 49) hx hb dX8_isSound_42 (by decide) (fun c_42 => absurd c_42 (by decide)) (fun c_42 => ?_)
  refine lv_iconst (v := 1) hx hb dX8_isSound_45 (by decide) ?_
  refine lv_goto (tgt := 50) hx hb dX8_isSound_46 (by decide) ?_
  exact W.zret (v := 1) hx hb hr (by first | rfl | decide) (fun t ht hW => ⟨⟨1, (), rfl, rfl, ht⟩, hS.F ht⟩) hS.2.2 dX8_isSound_50
end
section
/-! Methods that throw X, from a start at which it is known that they do (launches without stack traces): one new cell of six slots; all else stays. px_v, px_i, px_l: by what they would answer. -/
def xK (X : String) (U : State) : Prop := (va_Nw (.declares (Bundle.init0 "java/lang/RuntimeException")) U ∧ va_Nw (.declares (Bundle.init0 "java/lang/Exception")) U ∧ va_Nw (.declares (Bundle.init0 Bundle.tN)) U ∧ va_Nw (.castable X X) U) ∧ vx_Zq Bundle.tN "UNASSIGNED_STACK" Bundle.steD (fun q => U.heap.size ≤ q) U U.heap ∧ vx_Zq Bundle.tN "SUPPRESSED_SENTINEL" Bundle.listD (fun q => U.heap.size ≤ q) U U.heap
abbrev xB (X : String) : List Cond := [.declares (Bundle.init0 "java/lang/RuntimeException"), .declares (Bundle.init0 "java/lang/Exception"), .declares (Bundle.init0 Bundle.tN), .castable X X]
abbrev xNames : List String := ["java/lang/RuntimeException", "java/lang/Exception"]
theorem xK_B {X : String} {s : State} {args : Array Value} (h : xK X s) : ∀ w ∈ xB X, w.before args s = true := vx_c (h.1.1.use rfl) (vx_c (h.1.2.1.use rfl) (vx_c (h.1.2.2.1.use rfl) (vx_c (h.1.2.2.2.use rfl) vx_n)))
theorem xK_warm {X : String} {s U : State} (hW : s.WarmedH U.vm) (hU : U.heap = s.heap) (h : xK X s) : xK X U := by
  obtain ⟨⟨h1, h2, h3, h4⟩, hu, hn⟩ := h
  refine ⟨⟨h1.warmD hW, h2.warmD hW, h3.warmD hW, h4.warmC hW⟩, ?_, ?_⟩
  · rw [hU]; exact vx_Zq.moved hW.alike hu
  · rw [hU]; exact vx_Zq.moved hW.alike hn
theorem xK_blind {X : String} (U : State) (g : JFrame) (mk : MethodId) (a : Array Value) (h : xK X U) : xK X (U.calling g mk a) := by
  obtain ⟨⟨h1, h2, h3, h4⟩, hu, hn⟩ := h
  exact ⟨⟨va_Nw.same (u := U) rfl rfl h1, va_Nw.same (u := U) rfl rfl h2, va_Nw.same (u := U) rfl rfl h3, va_Nw.same (u := U) rfl rfl h4⟩, vx_Zq.moved (u := U) (U := U.calling g mk a) (Vm.Alike.refl U.vm) hu, vx_Zq.moved (u := U) (U := U.calling g mk a) (Vm.Alike.refl U.vm) hn⟩
abbrev xXC (X : String) (A : Nat → Prop) : String → State → State → Prop := vx_X (fun _ : Unit => True) (fun E _ _ => E = X) A
def px_v (l : Launch) (y : MethodName) (ws : List Cond) (rm : Room) (av : List Value) (X : String) : Prop := ∀ H0 : Heap, vx_Met l y ws rm (va_Pc av (fun U => U.heap = H0 ∧ xK X U)) (va_Qv (fun _ : Unit => False) (fun _ _ => True) (fun q => H0.size ≤ q)) (xXC X (fun q => H0.size ≤ q)) 1 6 (fun q => H0.size ≤ q)
def px_i (l : Launch) (y : MethodName) (ws : List Cond) (rm : Room) (av : List Value) (X : String) : Prop := ∀ H0 : Heap, vx_Met l y ws rm (va_Pc av (fun U => U.heap = H0 ∧ xK X U)) (va_Qi (fun (_ : Int32) (_ : Unit) => False) (fun _ _ => True) (fun q => H0.size ≤ q)) (xXC X (fun q => H0.size ≤ q)) 1 6 (fun q => H0.size ≤ q)
def px_l (l : Launch) (y : MethodName) (ws : List Cond) (rm : Room) (av : List Value) (X : String) : Prop := ∀ H0 : Heap, vx_Met l y ws rm (va_Pc av (fun U => U.heap = H0 ∧ xK X U)) (va_Ql (fun (_ : Int64) (_ : Unit) => False) (fun _ _ => True) (fun q => H0.size ≤ q)) (xXC X (fun q => H0.size ≤ q)) 1 6 (fun q => H0.size ≤ q)
section PX
variable {p : Program} {l : Launch} {e : Env} {R : Room} {s : State} {m : MethodId} {args : Array Value} {below : List Frame} {meth : Method} {c : Code} {locs : List Loc} {Qc : Array Value → State → Outcome → State → Prop}
variable {y : MethodName} {bytes cc : ByteArray} {maxL nL n index : Nat} {ret : Option FieldType} {ws : List Cond} {rm : Room} {Ts : List Cond} {own C : String} {As rest : List Value} {pc : Nat} {ls : Array Slot} {st0 : List Value} {b : Nat} {X : String}
abbrev xA (s : State) : Nat → Prop := fun q => s.heap.size ≤ q
/-- a static call that throws, in a method without handlers -/
theorem px_outv (S : CallFix p m c cc nL s args Ts own) (hM : px_v l y ws rm As X) (cw : CallB R s args own index y bytes maxL ret ws rm 1 6 n ∧ (Cond.static y).before args s = true) (hn : As.length = n) (hsize : ls.size = nL)
    (hW : 2 * (F0 m pc ls st0).monitorRoom + (rest.map fun v => v.category).sum ≤ 8) (hdg : decode cc pc = .ok (.invokestatic index, 3)) (hf : 0 + 1 ≤ R.cells ∧ 0 + 6 ≤ R.slots) (hS : va_S (xA s) s.heap s.heap locs) (hst : st0 = As.reverse ++ rest) (hK : xK X s) (ht : ∀ x ∈ c.exceptionTable.toList, False) (hlocks : meth.locks = false) :
    W p l e R s m args below meth c s.heap locs 0 0 (vx_MQ below Qc (xXC X (xA s)) args s 1 6 (xA s)) (F0 m pc ls st0) := by
  refine vx_callv (A1 := xA s) (AX := xA s) (vx_runS S (hM s.heap) cw ⟨fun a U g mk q => ⟨q.1, q.2.1, xK_blind U g mk a q.2.2⟩, fun U hU hW => ⟨rfl, hU, xK_warm hW hU hK⟩⟩ rfl hn hsize hst hW hdg hf) hS (fun q h1 h2 => absurd h1 (Nat.not_lt.mpr h2)) (fun q h => h) (fun q h1 h2 => absurd h1 (Nat.not_lt.mpr h2)) (fun E ce q9 u t H1 locs1 ht1 hvm hpx hBX hz hk hS1 hq hv9 hcl => ?_) (fun u t H1 locs1 _ _ hp _ _ _ _ => hp.elim)
  have hE : E = X := hBX
  subst hE
  exact vx_out (fun x hx => (ht x hx).elim) hlocks hq hv9 hcl (fun t' ht' ha => ⟨(), trivial, rfl, hS1.F ht'⟩) hS1.2.2 (Nat.le_refl _) (Nat.le_refl _)
theorem px_outl (S : CallFix p m c cc nL s args Ts own) (hM : px_l l y ws rm As X) (cw : CallB R s args own index y bytes maxL ret ws rm 1 6 n ∧ (Cond.static y).before args s = true) (hn : As.length = n) (hsize : ls.size = nL)
    (hW : 2 * (F0 m pc ls st0).monitorRoom + (rest.map fun v => v.category).sum ≤ 8) (hdg : decode cc pc = .ok (.invokestatic index, 3)) (hf : 0 + 1 ≤ R.cells ∧ 0 + 6 ≤ R.slots) (hS : va_S (xA s) s.heap s.heap locs) (hst : st0 = As.reverse ++ rest) (hK : xK X s) (ht : ∀ x ∈ c.exceptionTable.toList, False) (hlocks : meth.locks = false) :
    W p l e R s m args below meth c s.heap locs 0 0 (vx_MQ below Qc (xXC X (xA s)) args s 1 6 (xA s)) (F0 m pc ls st0) := by
  refine vx_calll (A1 := xA s) (AX := xA s) (vx_runS S (hM s.heap) cw ⟨fun a U g mk q => ⟨q.1, q.2.1, xK_blind U g mk a q.2.2⟩, fun U hU hW => ⟨rfl, hU, xK_warm hW hU hK⟩⟩ rfl hn hsize hst hW hdg hf) hS (fun q h1 h2 => absurd h1 (Nat.not_lt.mpr h2)) (fun q h => h) (fun q h1 h2 => absurd h1 (Nat.not_lt.mpr h2)) (fun E ce q9 u t H1 locs1 ht1 hvm hpx hBX hz hk hS1 hq hv9 hcl => ?_) (fun r u t H1 locs1 _ _ hp _ _ _ _ => hp.elim)
  have hE : E = X := hBX
  subst hE
  exact vx_out (fun x hx => (ht x hx).elim) hlocks hq hv9 hcl (fun t' ht' ha => ⟨(), trivial, rfl, hS1.F ht'⟩) hS1.2.2 (Nat.le_refl _) (Nat.le_refl _)
end PX
set_option maxRecDepth 20000 in
theorem xgood_IAE : ∀ w ∈ Cond.classLink RX8 238 "java/lang/IllegalArgumentException" :: Cond.initialized "java/lang/IllegalArgumentException" :: vx_at0 RX8 240 "java/lang/IllegalArgumentException" xNames, vx_ot w = true := by decide +kernel
set_option maxRecDepth 20000 in
theorem xgood_NSE : ∀ w ∈ Cond.classLink RX8 87 "java/util/NoSuchElementException" :: Cond.initialized "java/util/NoSuchElementException" :: vx_at0 RX8 89 "java/util/NoSuchElementException" xNames, vx_ot w = true := by decide +kernel
set_option maxRecDepth 20000 in
theorem xB_IAE : ∀ w ∈ (vx_at0 RX8 240 "java/lang/IllegalArgumentException" xNames).filter (fun w => !goodWord w), w ∈ xB "java/lang/IllegalArgumentException" := by decide +kernel
set_option maxRecDepth 20000 in
theorem xB_NSE : ∀ w ∈ (vx_at0 RX8 89 "java/util/NoSuchElementException" xNames).filter (fun w => !goodWord w), w ∈ xB "java/util/NoSuchElementException" := by decide +kernel
end
section
set_option maxHeartbeats 4000000 in
set_option maxRecDepth 100000 in
theorem c_X8_checkRange (l : Launch) (n lo hi : Int64) (h1 : ¬ n < lo) (h2 : ¬ hi < n) : pc_v l yX8_checkRange wsX8_checkRange ({ frames := 0, cells := 0, slots := 0, locals := 0 } : Room) [.long n, .long lo, .long hi] () := by
  intro H0
  refine Met.ofW (cc := cX8_checkRange) (maxL := 6) (ret := none) (by decide) rfl ?_
  intro p e s m args below meth c s₁ B hml hv
  obtain ⟨rfl, rfl⟩ := hv
  have hx := B.exec
  have hb := B.bytes
  have hr := B.returns
  have hts := atoms_spec (ws := wsX8_checkRange) B.pre
  have hown : s.vm.findClass RX8 = some m.cls := findClass_of_methodNamed B.named
  have hlocks := B.notSynchronized
  have hS : va_S (fun q => s.heap.size ≤ q) s.heap s.heap [] := va_S.rf
  have hA : ∀ q : Nat, s.heap.size ≤ q → (fun q : Nat => s.heap.size ≤ q) q := fun _ h => h
  have hl := lv_entry ([.long n, .long lo, .long hi]) (n := 6) (Nat.le_of_ble_eq_true rfl)
  rw [lg_entry_eq]
  generalize (lg_sl ([.long n, .long lo, .long hi]) ++ List.replicate (6 - (lg_sl ([.long n, .long lo, .long hi])).length) Slot.unset).toArray = ls at hl ⊢
  have hl : lv_has ls 6 [(0, .long n), (2, .long lo), (4, .long hi)] := hl
  refine lv_lload_n hx hb dX8_checkRange_0 rfl (lv_at hl 0 rfl) ?_
  refine lv_lload_n hx hb dX8_checkRange_1 rfl (lv_at hl 1 rfl) ?_
  refine W.lcmp hx hb dX8_checkRange_2 ?_
  refine lv_if_lt (tgt := 13) hx hb dX8_checkRange_3 (by decide) (fun c_3 => absurd c_3 (fun h => h1 ((lg_cmp_lt _ _).mp h))) (fun c_3 => ?_)
  refine lv_lload_n hx hb dX8_checkRange_6 rfl (lv_at hl 0 rfl) ?_
  refine lv_lload hx hb dX8_checkRange_7 (lv_at hl 2 rfl) ?_
  refine W.lcmp hx hb dX8_checkRange_9 ?_
  refine lv_if_le (tgt := 21) hx hb dX8_checkRange_10 (by decide) (fun c_10 => ?_) (fun c_10 => absurd c_10 (fun h => h ((lg_cmp_le _ _).mpr (Int64.not_lt.mp h2))))
  exact W.vret hx hb hr (fun t ht hW => ⟨⟨(), rfl, trivial, ht⟩, hS.F ht⟩) hS.2.2 dX8_checkRange_21
set_option maxHeartbeats 4000000 in
set_option maxRecDepth 100000 in
theorem x_X8_checkRange (l : Launch) (hstk : l.stackTraces = false) (n lo hi : Int64) (h : n < lo ∨ hi < n) : px_v l yX8_checkRange wsX8_checkRange ({ frames := 6, cells := 1, slots := 6, locals := 81 } : Room) [.long n, .long lo, .long hi] "java/lang/IllegalArgumentException" := by
  intro H0
  refine vx_ofW (cc := cX8_checkRange) (maxL := 6) (ret := none) (by decide) rfl ?_
  intro p e s m args below meth c s₁ B hml ht hv
  obtain ⟨rfl, rfl, hX⟩ := hv
  have hx := B.exec
  have hb := B.bytes
  have hr := B.returns
  have hts := atoms_spec (ws := wsX8_checkRange) B.pre
  have hown : s.vm.findClass RX8 = some m.cls := findClass_of_methodNamed B.named
  have hlocks := B.notSynchronized
  have hS : va_S (xA s) s.heap s.heap [] := va_S.rf
  have hA : ∀ q : Nat, s.heap.size ≤ q → xA s q := fun _ h => h
  have hl := lv_entry ([.long n, .long lo, .long hi]) (n := 6) (Nat.le_of_ble_eq_true rfl)
  rw [lg_entry_eq]
  generalize (lg_sl ([.long n, .long lo, .long hi]) ++ List.replicate (6 - (lg_sl ([.long n, .long lo, .long hi])).length) Slot.unset).toArray = ls at hl ⊢
  have hl : lv_has ls 6 [(0, .long n), (2, .long lo), (4, .long hi)] := hl
  refine lv_lload_n hx hb dX8_checkRange_0 rfl (lv_at hl 0 rfl) ?_
  refine lv_lload_n hx hb dX8_checkRange_1 rfl (lv_at hl 1 rfl) ?_
  refine W.lcmp hx hb dX8_checkRange_2 ?_
  refine lv_if_lt (tgt := 13) hx hb dX8_checkRange_3 (by decide) (fun c_3 => ?_) (fun c_3 => ?_)
  · exact vx_throw0 (own := RX8) (cls := "java/lang/IllegalArgumentException") (names := xNames) (ik := 238) (ic := 240) (A := xA s) hx hb hstk hown (by decide) (by decide) (hts (.classLink RX8 238 "java/lang/IllegalArgumentException") (by decide +kernel)) (hts (.initialized "java/lang/IllegalArgumentException") (by decide +kernel)) (vx_hat (fun w hw => hts w (List.mem_cons_of_mem _ (List.mem_append_right _ hw))) xB_IAE (xK_B hX)) xgood_IAE hX.2.1 hX.2.2 hS (by rw [hml]; exact hl.1) dX8_checkRange_13 dX8_checkRange_16 dX8_checkRange_17 dX8_checkRange_20 (fun x hx => (ht x hx).elim) (Nat.le_of_ble_eq_true rfl) (Nat.le_of_ble_eq_true rfl) (Nat.le_of_ble_eq_true rfl) (Nat.le_of_ble_eq_true rfl) hlocks (fun t ha hz hk => ⟨(), trivial, rfl, hz, fun q h1 _ => hk q h1⟩) hS.2.2 (Nat.le_of_ble_eq_true rfl) (Nat.le_of_ble_eq_true rfl)
  · refine lv_lload_n hx hb dX8_checkRange_6 rfl (lv_at hl 0 rfl) ?_
    refine lv_lload hx hb dX8_checkRange_7 (lv_at hl 2 rfl) ?_
    refine W.lcmp hx hb dX8_checkRange_9 ?_
    refine lv_if_le (tgt := 21) hx hb dX8_checkRange_10 (by decide) (fun c_10 => absurd c_10 (fun h10 => h.elim (fun z => c_3 ((lg_cmp_lt _ _).mpr z)) (fun z => absurd z (Int64.not_lt.mpr ((lg_cmp_le _ _).mp h10))))) (fun c_10 => ?_)
    exact vx_throw0 (own := RX8) (cls := "java/lang/IllegalArgumentException") (names := xNames) (ik := 238) (ic := 240) (A := xA s) hx hb hstk hown (by decide) (by decide) (hts (.classLink RX8 238 "java/lang/IllegalArgumentException") (by decide +kernel)) (hts (.initialized "java/lang/IllegalArgumentException") (by decide +kernel)) (vx_hat (fun w hw => hts w (List.mem_cons_of_mem _ (List.mem_append_right _ hw))) xB_IAE (xK_B hX)) xgood_IAE hX.2.1 hX.2.2 hS (by rw [hml]; exact hl.1) dX8_checkRange_13 dX8_checkRange_16 dX8_checkRange_17 dX8_checkRange_20 (fun x hx => (ht x hx).elim) (Nat.le_of_ble_eq_true rfl) (Nat.le_of_ble_eq_true rfl) (Nat.le_of_ble_eq_true rfl) (Nat.le_of_ble_eq_true rfl) hlocks (fun t ha hz hk => ⟨(), trivial, rfl, hz, fun q h1 _ => hk q h1⟩) hS.2.2 (Nat.le_of_ble_eq_true rfl) (Nat.le_of_ble_eq_true rfl)
set_option maxHeartbeats 4000000 in
set_option maxRecDepth 100000 in
theorem c_X8_word (l : Launch) (o : Nat) (v : Int32) (h1 : ¬ v.toInt64 < 0) (h2 : ¬ 65535 < v.toInt64) : pc_l l yX8_word wsX8_word ({ frames := 4, cells := 0, slots := 0, locals := 99 } : Room) [.ref o, .int v] (fOf v) := by
  intro H0
  refine Met.ofW (cc := cX8_word) (maxL := 2) (ret := (some .long)) (by decide) rfl ?_
  intro p e s m args below meth c s₁ B hml hv
  obtain ⟨rfl, rfl⟩ := hv
  have hx := B.exec
  have hb := B.bytes
  have hr := B.returns
  have hts := atoms_spec (ws := wsX8_word) B.pre
  have hown : s.vm.findClass RX8 = some m.cls := findClass_of_methodNamed B.named
  have hlocks := B.notSynchronized
  have hS : va_S (fun q => s.heap.size ≤ q) s.heap s.heap [] := va_S.rf
  have hA : ∀ q : Nat, s.heap.size ≤ q → (fun q : Nat => s.heap.size ≤ q) q := fun _ h => h
  have hl := lv_entry ([.ref o, .int v]) (n := 2) (Nat.le_of_ble_eq_true rfl)
  rw [lg_entry_eq]
  generalize (lg_sl ([.ref o, .int v]) ++ List.replicate (2 - (lg_sl ([.ref o, .int v])).length) Slot.unset).toArray = ls at hl ⊢
  have hl : lv_has ls 2 [(0, .ref o), (1, .int v)] := hl
  refine lv_iload_n hx hb dX8_word_0 rfl (lv_at hl 1 rfl) ?_
  refine lv_i2l hx hb dX8_word_1 rfl ?_
  refine lv_lconst (v := 0) hx hb dX8_word_2 (by decide) ?_
  refine lv_ldc2 (v := 65535) hx hb hown (hts (.constantLong RX8 51 65535) (by decide +kernel)) dX8_word_3 ?_
  refine pu_callv (As := [.long v.toInt64, .long 0, .long 65535]) (rest := []) ⟨hx, hb, hml, hown, hts⟩ (c_X8_checkRange l v.toInt64 0 65535 h1 h2) (va_cwS 3 hts gX8_word_X8_checkRange rfl rfl rfl (by decide +kernel) ⟨(Nat.le_of_ble_eq_true rfl), (Nat.le_of_ble_eq_true rfl)⟩) rfl hl.1 (lv_room (Nat.le_of_ble_eq_true rfl)) dX8_word_6 ⟨Nat.zero_le _, Nat.zero_le _⟩ hS hA rfl (fun locs hS => ?_)
  refine lv_iload_n hx hb dX8_word_9 rfl (lv_at hl 1 rfl) ?_
  refine pu_calll (As := [.int v]) (rest := []) ⟨hx, hb, hml, hown, hts⟩ (c_X7_of l v) (va_cwS 1 hts gX8_word_X7_of rfl rfl rfl (by decide +kernel) ⟨(Nat.le_of_ble_eq_true rfl), (Nat.le_of_ble_eq_true rfl)⟩) rfl hl.1 (lv_room (Nat.le_of_ble_eq_true rfl)) dX8_word_10 ⟨Nat.zero_le _, Nat.zero_le _⟩ hS hA rfl (fun locs hS => ?_)
  exact W.lret (v := (fOf v)) hx hb hr (fun t ht hW => ⟨⟨(fOf v), (), rfl, rfl, ht⟩, hS.F ht⟩) hS.2.2 dX8_word_13
set_option maxHeartbeats 4000000 in
set_option maxRecDepth 100000 in
theorem x_X8_word (l : Launch) (hstk : l.stackTraces = false) (o : Nat) (v : Int32) (h : v.toInt64 < 0 ∨ 65535 < v.toInt64) : px_l l yX8_word wsX8_word ({ frames := 7, cells := 1, slots := 6, locals := 106 } : Room) [.ref o, .int v] "java/lang/IllegalArgumentException" := by
  intro H0
  refine vx_ofW (cc := cX8_word) (maxL := 2) (ret := (some .long)) (by decide) rfl ?_
  intro p e s m args below meth c s₁ B hml ht hv
  obtain ⟨rfl, rfl, hX⟩ := hv
  have hx := B.exec
  have hb := B.bytes
  have hr := B.returns
  have hts := atoms_spec (ws := wsX8_word) B.pre
  have hown : s.vm.findClass RX8 = some m.cls := findClass_of_methodNamed B.named
  have hlocks := B.notSynchronized
  have hS : va_S (xA s) s.heap s.heap [] := va_S.rf
  have hA : ∀ q : Nat, s.heap.size ≤ q → xA s q := fun _ h => h
  have hl := lv_entry ([.ref o, .int v]) (n := 2) (Nat.le_of_ble_eq_true rfl)
  rw [lg_entry_eq]
  generalize (lg_sl ([.ref o, .int v]) ++ List.replicate (2 - (lg_sl ([.ref o, .int v])).length) Slot.unset).toArray = ls at hl ⊢
  have hl : lv_has ls 2 [(0, .ref o), (1, .int v)] := hl
  refine lv_iload_n hx hb dX8_word_0 rfl (lv_at hl 1 rfl) ?_
  refine lv_i2l hx hb dX8_word_1 rfl ?_
  refine lv_lconst (v := 0) hx hb dX8_word_2 (by decide) ?_
  refine lv_ldc2 (v := 65535) hx hb hown (hts (.constantLong RX8 51 65535) (by decide +kernel)) dX8_word_3 ?_
  exact px_outv (As := [.long v.toInt64, .long 0, .long 65535]) (rest := []) ⟨hx, hb, hml, hown, hts⟩ (x_X8_checkRange l hstk v.toInt64 0 65535 h) (va_cwS 3 hts gX8_word_X8_checkRange rfl rfl rfl (by decide +kernel) ⟨(Nat.le_of_ble_eq_true rfl), (Nat.le_of_ble_eq_true rfl)⟩) rfl hl.1 (lv_room (Nat.le_of_ble_eq_true rfl)) dX8_word_6 ⟨(Nat.le_of_ble_eq_true rfl), (Nat.le_of_ble_eq_true rfl)⟩ hS rfl hX ht hlocks
set_option maxHeartbeats 4000000 in
set_option maxRecDepth 100000 in
theorem c_X8_repairedOrThrow (l : Launch) (w : Int64) (k : Int32) (h1 : ¬ w < 0) (h2 : ¬ 4294967295 < w) (h3 : ¬ k.toInt64 < 0) (h4 : ¬ 255 < k.toInt64) (hne : ¬ fRep w k = -1) : pc_l l yX8_repairedOrThrow wsX8_repairedOrThrow ({ frames := 4, cells := 0, slots := 0, locals := 105 } : Room) [.long w, .int k] (fRep w k) := by
  intro H0
  refine Met.ofW (cc := cX8_repairedOrThrow) (maxL := 5) (ret := (some .long)) (by decide) rfl ?_
  intro p e s m args below meth c s₁ B hml hv
  obtain ⟨rfl, rfl⟩ := hv
  have hx := B.exec
  have hb := B.bytes
  have hr := B.returns
  have hts := atoms_spec (ws := wsX8_repairedOrThrow) B.pre
  have hown : s.vm.findClass RX8 = some m.cls := findClass_of_methodNamed B.named
  have hlocks := B.notSynchronized
  have hS : va_S (fun q => s.heap.size ≤ q) s.heap s.heap [] := va_S.rf
  have hA : ∀ q : Nat, s.heap.size ≤ q → (fun q : Nat => s.heap.size ≤ q) q := fun _ h => h
  have hl := lv_entry ([.long w, .int k]) (n := 5) (Nat.le_of_ble_eq_true rfl)
  rw [lg_entry_eq]
  generalize (lg_sl ([.long w, .int k]) ++ List.replicate (5 - (lg_sl ([.long w, .int k])).length) Slot.unset).toArray = ls at hl ⊢
  have hl : lv_has ls 5 [(0, .long w), (2, .int k)] := hl
  refine lv_lload_n hx hb dX8_repairedOrThrow_0 rfl (lv_at hl 0 rfl) ?_
  refine lv_lconst (v := 0) hx hb dX8_repairedOrThrow_1 (by decide) ?_
  refine lv_ldc2 (v := 4294967295) hx hb hown (hts (.constantLong RX8 298 4294967295) (by decide +kernel)) dX8_repairedOrThrow_2 ?_
  refine pu_callv (As := [.long w, .long 0, .long 4294967295]) (rest := []) ⟨hx, hb, hml, hown, hts⟩ (c_X8_checkRange l w 0 4294967295 h1 h2) (va_cwS 3 hts gX8_repairedOrThrow_X8_checkRange rfl rfl rfl (by decide +kernel) ⟨(Nat.le_of_ble_eq_true rfl), (Nat.le_of_ble_eq_true rfl)⟩) rfl hl.1 (lv_room (Nat.le_of_ble_eq_true rfl)) dX8_repairedOrThrow_5 ⟨Nat.zero_le _, Nat.zero_le _⟩ hS hA rfl (fun locs hS => ?_)
  refine lv_iload_n hx hb dX8_repairedOrThrow_8 rfl (lv_at hl 1 rfl) ?_
  refine lv_i2l hx hb dX8_repairedOrThrow_9 rfl ?_
  refine lv_lconst (v := 0) hx hb dX8_repairedOrThrow_10 (by decide) ?_
  refine lv_ldc2 (v := 255) hx hb hown (hts (.constantLong RX8 75 255) (by decide +kernel)) dX8_repairedOrThrow_11 ?_
  refine pu_callv (As := [.long k.toInt64, .long 0, .long 255]) (rest := []) ⟨hx, hb, hml, hown, hts⟩ (c_X8_checkRange l k.toInt64 0 255 h3 h4) (va_cwS 3 hts gX8_repairedOrThrow_X8_checkRange rfl rfl rfl (by decide +kernel) ⟨(Nat.le_of_ble_eq_true rfl), (Nat.le_of_ble_eq_true rfl)⟩) rfl hl.1 (lv_room (Nat.le_of_ble_eq_true rfl)) dX8_repairedOrThrow_14 ⟨Nat.zero_le _, Nat.zero_le _⟩ hS hA rfl (fun locs hS => ?_)
  refine lv_lload_n hx hb dX8_repairedOrThrow_17 rfl (lv_at hl 0 rfl) ?_
  refine lv_iload_n hx hb dX8_repairedOrThrow_18 rfl (lv_at hl 1 rfl) ?_
  refine pu_calll (As := [.long w, .int k]) (rest := []) ⟨hx, hb, hml, hown, hts⟩ (c_X7_repaired l w k) (va_cwS 2 hts gX8_repairedOrThrow_X7_repaired rfl rfl rfl (by decide +kernel) ⟨(Nat.le_of_ble_eq_true rfl), (Nat.le_of_ble_eq_true rfl)⟩) rfl hl.1 (lv_room (Nat.le_of_ble_eq_true rfl)) dX8_repairedOrThrow_19 ⟨Nat.zero_le _, Nat.zero_le _⟩ hS hA rfl (fun locs hS => ?_)
  refine lv_lstore_n (lv' := [(3, .long (fRep w k)), (0, .long w), (2, .int k)]) hx hb dX8_repairedOrThrow_22 rfl hl (by decide) rfl (fun ls hl => ?_)
  refine lv_lload_n hx hb dX8_repairedOrThrow_23 rfl (lv_at hl 0 rfl) ?_
  refine lv_ldc2 (v := (-1)) hx hb hown (hts (.constantLong RX8 303 (-1)) (by decide +kernel)) dX8_repairedOrThrow_24 ?_
  refine W.lcmp hx hb dX8_repairedOrThrow_27 ?_
  refine lv_if_ne (tgt := 39) hx hb dX8_repairedOrThrow_28 (by decide) (fun c_28 => ?_) (fun c_28 => absurd c_28 (fun h => hne ((lg_cmp_eq _ _).mp h)))
  refine lv_lload_n hx hb dX8_repairedOrThrow_39 rfl (lv_at hl 0 rfl) ?_
  exact W.lret (v := (fRep w k)) hx hb hr (fun t ht hW => ⟨⟨(fRep w k), (), rfl, rfl, ht⟩, hS.F ht⟩) hS.2.2 dX8_repairedOrThrow_40
set_option maxHeartbeats 4000000 in
set_option maxRecDepth 100000 in
theorem x_X8_repairedOrThrow_1 (l : Launch) (hstk : l.stackTraces = false) (w : Int64) (k : Int32) (h : w < 0 ∨ 4294967295 < w) : px_l l yX8_repairedOrThrow wsX8_repairedOrThrow ({ frames := 7, cells := 1, slots := 6, locals := 106 } : Room) [.long w, .int k] "java/lang/IllegalArgumentException" := by
  intro H0
  refine vx_ofW (cc := cX8_repairedOrThrow) (maxL := 5) (ret := (some .long)) (by decide) rfl ?_
  intro p e s m args below meth c s₁ B hml ht hv
  obtain ⟨rfl, rfl, hX⟩ := hv
  have hx := B.exec
  have hb := B.bytes
  have hr := B.returns
  have hts := atoms_spec (ws := wsX8_repairedOrThrow) B.pre
  have hown : s.vm.findClass RX8 = some m.cls := findClass_of_methodNamed B.named
  have hlocks := B.notSynchronized
  have hS : va_S (xA s) s.heap s.heap [] := va_S.rf
  have hA : ∀ q : Nat, s.heap.size ≤ q → xA s q := fun _ h => h
  have hl := lv_entry ([.long w, .int k]) (n := 5) (Nat.le_of_ble_eq_true rfl)
  rw [lg_entry_eq]
  generalize (lg_sl ([.long w, .int k]) ++ List.replicate (5 - (lg_sl ([.long w, .int k])).length) Slot.unset).toArray = ls at hl ⊢
  have hl : lv_has ls 5 [(0, .long w), (2, .int k)] := hl
  refine lv_lload_n hx hb dX8_repairedOrThrow_0 rfl (lv_at hl 0 rfl) ?_
  refine lv_lconst (v := 0) hx hb dX8_repairedOrThrow_1 (by decide) ?_
  refine lv_ldc2 (v := 4294967295) hx hb hown (hts (.constantLong RX8 298 4294967295) (by decide +kernel)) dX8_repairedOrThrow_2 ?_
  exact px_outv (As := [.long w, .long 0, .long 4294967295]) (rest := []) ⟨hx, hb, hml, hown, hts⟩ (x_X8_checkRange l hstk w 0 4294967295 h) (va_cwS 3 hts gX8_repairedOrThrow_X8_checkRange rfl rfl rfl (by decide +kernel) ⟨(Nat.le_of_ble_eq_true rfl), (Nat.le_of_ble_eq_true rfl)⟩) rfl hl.1 (lv_room (Nat.le_of_ble_eq_true rfl)) dX8_repairedOrThrow_5 ⟨(Nat.le_of_ble_eq_true rfl), (Nat.le_of_ble_eq_true rfl)⟩ hS rfl hX ht hlocks
set_option maxHeartbeats 4000000 in
set_option maxRecDepth 100000 in
theorem x_X8_repairedOrThrow_2 (l : Launch) (hstk : l.stackTraces = false) (w : Int64) (k : Int32) (h1 : ¬ w < 0) (h2 : ¬ 4294967295 < w) (h : k.toInt64 < 0 ∨ 255 < k.toInt64) : px_l l yX8_repairedOrThrow wsX8_repairedOrThrow ({ frames := 7, cells := 1, slots := 6, locals := 106 } : Room) [.long w, .int k] "java/lang/IllegalArgumentException" := by
  intro H0
  refine vx_ofW (cc := cX8_repairedOrThrow) (maxL := 5) (ret := (some .long)) (by decide) rfl ?_
  intro p e s m args below meth c s₁ B hml ht hv
  obtain ⟨rfl, rfl, hX⟩ := hv
  have hx := B.exec
  have hb := B.bytes
  have hr := B.returns
  have hts := atoms_spec (ws := wsX8_repairedOrThrow) B.pre
  have hown : s.vm.findClass RX8 = some m.cls := findClass_of_methodNamed B.named
  have hlocks := B.notSynchronized
  have hS : va_S (xA s) s.heap s.heap [] := va_S.rf
  have hA : ∀ q : Nat, s.heap.size ≤ q → xA s q := fun _ h => h
  have hl := lv_entry ([.long w, .int k]) (n := 5) (Nat.le_of_ble_eq_true rfl)
  rw [lg_entry_eq]
  generalize (lg_sl ([.long w, .int k]) ++ List.replicate (5 - (lg_sl ([.long w, .int k])).length) Slot.unset).toArray = ls at hl ⊢
  have hl : lv_has ls 5 [(0, .long w), (2, .int k)] := hl
  refine lv_lload_n hx hb dX8_repairedOrThrow_0 rfl (lv_at hl 0 rfl) ?_
  refine lv_lconst (v := 0) hx hb dX8_repairedOrThrow_1 (by decide) ?_
  refine lv_ldc2 (v := 4294967295) hx hb hown (hts (.constantLong RX8 298 4294967295) (by decide +kernel)) dX8_repairedOrThrow_2 ?_
  refine pu_callv (As := [.long w, .long 0, .long 4294967295]) (rest := []) ⟨hx, hb, hml, hown, hts⟩ (c_X8_checkRange l w 0 4294967295 h1 h2) (va_cwS 3 hts gX8_repairedOrThrow_X8_checkRange rfl rfl rfl (by decide +kernel) ⟨(Nat.le_of_ble_eq_true rfl), (Nat.le_of_ble_eq_true rfl)⟩) rfl hl.1 (lv_room (Nat.le_of_ble_eq_true rfl)) dX8_repairedOrThrow_5 ⟨Nat.zero_le _, Nat.zero_le _⟩ hS hA rfl (fun locs hS => ?_)
  refine lv_iload_n hx hb dX8_repairedOrThrow_8 rfl (lv_at hl 1 rfl) ?_
  refine lv_i2l hx hb dX8_repairedOrThrow_9 rfl ?_
  refine lv_lconst (v := 0) hx hb dX8_repairedOrThrow_10 (by decide) ?_
  refine lv_ldc2 (v := 255) hx hb hown (hts (.constantLong RX8 75 255) (by decide +kernel)) dX8_repairedOrThrow_11 ?_
  exact px_outv (As := [.long k.toInt64, .long 0, .long 255]) (rest := []) ⟨hx, hb, hml, hown, hts⟩ (x_X8_checkRange l hstk k.toInt64 0 255 h) (va_cwS 3 hts gX8_repairedOrThrow_X8_checkRange rfl rfl rfl (by decide +kernel) ⟨(Nat.le_of_ble_eq_true rfl), (Nat.le_of_ble_eq_true rfl)⟩) rfl hl.1 (lv_room (Nat.le_of_ble_eq_true rfl)) dX8_repairedOrThrow_14 ⟨(Nat.le_of_ble_eq_true rfl), (Nat.le_of_ble_eq_true rfl)⟩ hS rfl hX ht hlocks
set_option maxHeartbeats 4000000 in
set_option maxRecDepth 100000 in
theorem x_X8_repairedOrThrow_3 (l : Launch) (hstk : l.stackTraces = false) (w : Int64) (k : Int32) (h1 : ¬ w < 0) (h2 : ¬ 4294967295 < w) (h3 : ¬ k.toInt64 < 0) (h4 : ¬ 255 < k.toInt64) (he : fRep w k = -1) : px_l l yX8_repairedOrThrow wsX8_repairedOrThrow ({ frames := 7, cells := 1, slots := 6, locals := 106 } : Room) [.long w, .int k] "java/util/NoSuchElementException" := by
  intro H0
  refine vx_ofW (cc := cX8_repairedOrThrow) (maxL := 5) (ret := (some .long)) (by decide) rfl ?_
  intro p e s m args below meth c s₁ B hml ht hv
  obtain ⟨rfl, rfl, hX⟩ := hv
  have hx := B.exec
  have hb := B.bytes
  have hr := B.returns
  have hts := atoms_spec (ws := wsX8_repairedOrThrow) B.pre
  have hown : s.vm.findClass RX8 = some m.cls := findClass_of_methodNamed B.named
  have hlocks := B.notSynchronized
  have hS : va_S (xA s) s.heap s.heap [] := va_S.rf
  have hA : ∀ q : Nat, s.heap.size ≤ q → xA s q := fun _ h => h
  have hl := lv_entry ([.long w, .int k]) (n := 5) (Nat.le_of_ble_eq_true rfl)
  rw [lg_entry_eq]
  generalize (lg_sl ([.long w, .int k]) ++ List.replicate (5 - (lg_sl ([.long w, .int k])).length) Slot.unset).toArray = ls at hl ⊢
  have hl : lv_has ls 5 [(0, .long w), (2, .int k)] := hl
  refine lv_lload_n hx hb dX8_repairedOrThrow_0 rfl (lv_at hl 0 rfl) ?_
  refine lv_lconst (v := 0) hx hb dX8_repairedOrThrow_1 (by decide) ?_
  refine lv_ldc2 (v := 4294967295) hx hb hown (hts (.constantLong RX8 298 4294967295) (by decide +kernel)) dX8_repairedOrThrow_2 ?_
  refine pu_callv (As := [.long w, .long 0, .long 4294967295]) (rest := []) ⟨hx, hb, hml, hown, hts⟩ (c_X8_checkRange l w 0 4294967295 h1 h2) (va_cwS 3 hts gX8_repairedOrThrow_X8_checkRange rfl rfl rfl (by decide +kernel) ⟨(Nat.le_of_ble_eq_true rfl), (Nat.le_of_ble_eq_true rfl)⟩) rfl hl.1 (lv_room (Nat.le_of_ble_eq_true rfl)) dX8_repairedOrThrow_5 ⟨Nat.zero_le _, Nat.zero_le _⟩ hS hA rfl (fun locs hS => ?_)
  refine lv_iload_n hx hb dX8_repairedOrThrow_8 rfl (lv_at hl 1 rfl) ?_
  refine lv_i2l hx hb dX8_repairedOrThrow_9 rfl ?_
  refine lv_lconst (v := 0) hx hb dX8_repairedOrThrow_10 (by decide) ?_
  refine lv_ldc2 (v := 255) hx hb hown (hts (.constantLong RX8 75 255) (by decide +kernel)) dX8_repairedOrThrow_11 ?_
  refine pu_callv (As := [.long k.toInt64, .long 0, .long 255]) (rest := []) ⟨hx, hb, hml, hown, hts⟩ (c_X8_checkRange l k.toInt64 0 255 h3 h4) (va_cwS 3 hts gX8_repairedOrThrow_X8_checkRange rfl rfl rfl (by decide +kernel) ⟨(Nat.le_of_ble_eq_true rfl), (Nat.le_of_ble_eq_true rfl)⟩) rfl hl.1 (lv_room (Nat.le_of_ble_eq_true rfl)) dX8_repairedOrThrow_14 ⟨Nat.zero_le _, Nat.zero_le _⟩ hS hA rfl (fun locs hS => ?_)
  refine lv_lload_n hx hb dX8_repairedOrThrow_17 rfl (lv_at hl 0 rfl) ?_
  refine lv_iload_n hx hb dX8_repairedOrThrow_18 rfl (lv_at hl 1 rfl) ?_
  refine pu_calll (As := [.long w, .int k]) (rest := []) ⟨hx, hb, hml, hown, hts⟩ (c_X7_repaired l w k) (va_cwS 2 hts gX8_repairedOrThrow_X7_repaired rfl rfl rfl (by decide +kernel) ⟨(Nat.le_of_ble_eq_true rfl), (Nat.le_of_ble_eq_true rfl)⟩) rfl hl.1 (lv_room (Nat.le_of_ble_eq_true rfl)) dX8_repairedOrThrow_19 ⟨Nat.zero_le _, Nat.zero_le _⟩ hS hA rfl (fun locs hS => ?_)
  refine lv_lstore_n (lv' := [(3, .long (fRep w k)), (0, .long w), (2, .int k)]) hx hb dX8_repairedOrThrow_22 rfl hl (by decide) rfl (fun ls hl => ?_)
  refine lv_lload_n hx hb dX8_repairedOrThrow_23 rfl (lv_at hl 0 rfl) ?_
  refine lv_ldc2 (v := (-1)) hx hb hown (hts (.constantLong RX8 303 (-1)) (by decide +kernel)) dX8_repairedOrThrow_24 ?_
  refine W.lcmp hx hb dX8_repairedOrThrow_27 ?_
  refine lv_if_ne (tgt := 39) hx hb dX8_repairedOrThrow_28 (by decide) (fun c_28 => absurd c_28 (fun h => h ((lg_cmp_eq _ _).mpr he))) (fun c_28 => ?_)
  exact vx_throw0 (own := RX8) (cls := "java/util/NoSuchElementException") (names := xNames) (ik := 87) (ic := 89) (A := xA s) hx hb hstk hown (by decide) (by decide) (hts (.classLink RX8 87 "java/util/NoSuchElementException") (by decide +kernel)) (hts (.initialized "java/util/NoSuchElementException") (by decide +kernel)) (vx_hat (fun w hw => hts w (List.mem_cons_of_mem _ (List.mem_append_left _ (List.mem_append_right _ hw)))) xB_NSE (xK_B hX)) xgood_NSE hX.2.1 hX.2.2 hS (by rw [hml]; exact hl.1) dX8_repairedOrThrow_31 dX8_repairedOrThrow_34 dX8_repairedOrThrow_35 dX8_repairedOrThrow_38 (fun x hx => (ht x hx).elim) (Nat.le_of_ble_eq_true rfl) (Nat.le_of_ble_eq_true rfl) (Nat.le_of_ble_eq_true rfl) (Nat.le_of_ble_eq_true rfl) hlocks (fun t ha hz hk => ⟨(), trivial, rfl, hz, fun q h1 _ => hk q h1⟩) hS.2.2 (Nat.le_of_ble_eq_true rfl) (Nat.le_of_ble_eq_true rfl)
set_option maxHeartbeats 4000000 in
set_option maxRecDepth 100000 in
theorem c_X8_mend (l : Launch) (o : Nat) (w : Int64) (k : Int32) (h1 : ¬ w < 0) (h2 : ¬ 4294967295 < w) (h3 : ¬ k.toInt64 < 0) (h4 : ¬ 255 < k.toInt64) (hne : ¬ fRep w k = -1) : pc_i l yX8_mend wsX8_mend ({ frames := 5, cells := 0, slots := 0, locals := 129 } : Room) [.ref o, .long w, .int k] (fVal (fRep w k)) := by
  intro H0
  refine Met.ofW (cc := cX8_mend) (maxL := 4) (ret := (some .int)) (by decide) rfl ?_
  intro p e s m args below meth c s₁ B hml hv
  obtain ⟨rfl, rfl⟩ := hv
  have hx := B.exec
  have hb := B.bytes
  have hr := B.returns
  have hts := atoms_spec (ws := wsX8_mend) B.pre
  have hown : s.vm.findClass RX8 = some m.cls := findClass_of_methodNamed B.named
  have hlocks := B.notSynchronized
  have hS : va_S (fun q => s.heap.size ≤ q) s.heap s.heap [] := va_S.rf
  have hA : ∀ q : Nat, s.heap.size ≤ q → (fun q : Nat => s.heap.size ≤ q) q := fun _ h => h
  have hl := lv_entry ([.ref o, .long w, .int k]) (n := 4) (Nat.le_of_ble_eq_true rfl)
  rw [lg_entry_eq]
  generalize (lg_sl ([.ref o, .long w, .int k]) ++ List.replicate (4 - (lg_sl ([.ref o, .long w, .int k])).length) Slot.unset).toArray = ls at hl ⊢
  have hl : lv_has ls 4 [(0, .ref o), (1, .long w), (3, .int k)] := hl
  refine lv_lload_n hx hb dX8_mend_0 rfl (lv_at hl 1 rfl) ?_
  refine lv_iload_n hx hb dX8_mend_1 rfl (lv_at hl 2 rfl) ?_
  refine pu_calll (As := [.long w, .int k]) (rest := []) ⟨hx, hb, hml, hown, hts⟩ (c_X8_repairedOrThrow l w k h1 h2 h3 h4 hne) (va_cwS 2 hts gX8_mend_X8_repairedOrThrow rfl rfl rfl (by decide +kernel) ⟨(Nat.le_of_ble_eq_true rfl), (Nat.le_of_ble_eq_true rfl)⟩) rfl hl.1 (lv_room (Nat.le_of_ble_eq_true rfl)) dX8_mend_2 ⟨Nat.zero_le _, Nat.zero_le _⟩ hS hA rfl (fun locs hS => ?_)
  refine pu_calli (As := [.long (fRep w k)]) (rest := []) ⟨hx, hb, hml, hown, hts⟩ (c_X7_valueOf l (fRep w k)) (va_cwS 1 hts gX8_mend_X7_valueOf rfl rfl rfl (by decide +kernel) ⟨(Nat.le_of_ble_eq_true rfl), (Nat.le_of_ble_eq_true rfl)⟩) rfl hl.1 (lv_room (Nat.le_of_ble_eq_true rfl)) dX8_mend_5 ⟨Nat.zero_le _, Nat.zero_le _⟩ hS hA rfl (fun locs hS => ?_)
  exact W.iret (v := (fVal (fRep w k))) hx hb hr (fun t ht hW => ⟨⟨(fVal (fRep w k)), (), rfl, rfl, ht⟩, hS.F ht⟩) hS.2.2 dX8_mend_8
set_option maxHeartbeats 4000000 in
set_option maxRecDepth 100000 in
theorem c_X8_mended (l : Launch) (o : Nat) (w : Int64) (k : Int32) (h1 : ¬ w < 0) (h2 : ¬ 4294967295 < w) (h3 : ¬ k.toInt64 < 0) (h4 : ¬ 255 < k.toInt64) (hne : ¬ fRep w k = -1) : pc_i l yX8_mended wsX8_mended ({ frames := 5, cells := 0, slots := 0, locals := 129 } : Room) [.ref o, .long w, .int k] (fDiff w (fRep w k)) := by
  intro H0
  refine Met.ofW (cc := cX8_mended) (maxL := 4) (ret := (some .int)) (by decide) rfl ?_
  intro p e s m args below meth c s₁ B hml hv
  obtain ⟨rfl, rfl⟩ := hv
  have hx := B.exec
  have hb := B.bytes
  have hr := B.returns
  have hts := atoms_spec (ws := wsX8_mended) B.pre
  have hown : s.vm.findClass RX8 = some m.cls := findClass_of_methodNamed B.named
  have hlocks := B.notSynchronized
  have hS : va_S (fun q => s.heap.size ≤ q) s.heap s.heap [] := va_S.rf
  have hA : ∀ q : Nat, s.heap.size ≤ q → (fun q : Nat => s.heap.size ≤ q) q := fun _ h => h
  have hl := lv_entry ([.ref o, .long w, .int k]) (n := 4) (Nat.le_of_ble_eq_true rfl)
  rw [lg_entry_eq]
  generalize (lg_sl ([.ref o, .long w, .int k]) ++ List.replicate (4 - (lg_sl ([.ref o, .long w, .int k])).length) Slot.unset).toArray = ls at hl ⊢
  have hl : lv_has ls 4 [(0, .ref o), (1, .long w), (3, .int k)] := hl
  refine lv_lload_n hx hb dX8_mended_0 rfl (lv_at hl 1 rfl) ?_
  refine lv_lload_n hx hb dX8_mended_1 rfl (lv_at hl 1 rfl) ?_
  refine lv_iload_n hx hb dX8_mended_2 rfl (lv_at hl 2 rfl) ?_
  refine pu_calll (As := [.long w, .int k]) (rest := [.long w]) ⟨hx, hb, hml, hown, hts⟩ (c_X8_repairedOrThrow l w k h1 h2 h3 h4 hne) (va_cwS 2 hts gX8_mended_X8_repairedOrThrow rfl rfl rfl (by decide +kernel) ⟨(Nat.le_of_ble_eq_true rfl), (Nat.le_of_ble_eq_true rfl)⟩) rfl hl.1 (lv_room (Nat.le_of_ble_eq_true rfl)) dX8_mended_3 ⟨Nat.zero_le _, Nat.zero_le _⟩ hS hA rfl (fun locs hS => ?_)
  refine pu_calli (As := [.long w, .long (fRep w k)]) (rest := []) ⟨hx, hb, hml, hown, hts⟩ (c_X7_differences l w (fRep w k)) (va_cwS 2 hts gX8_mended_X7_differences rfl rfl rfl (by decide +kernel) ⟨(Nat.le_of_ble_eq_true rfl), (Nat.le_of_ble_eq_true rfl)⟩) rfl hl.1 (lv_room (Nat.le_of_ble_eq_true rfl)) dX8_mended_6 ⟨Nat.zero_le _, Nat.zero_le _⟩ hS hA rfl (fun locs hS => ?_)
  exact W.iret (v := (fDiff w (fRep w k))) hx hb hr (fun t ht hW => ⟨⟨(fDiff w (fRep w k)), (), rfl, rfl, ht⟩, hS.F ht⟩) hS.2.2 dX8_mended_9
set_option maxHeartbeats 4000000 in
set_option maxRecDepth 100000 in
theorem x_X8_mend (l : Launch) (hstk : l.stackTraces = false) (o : Nat) (w : Int64) (k : Int32) (X : String) (hM : px_l l yX8_repairedOrThrow wsX8_repairedOrThrow ({ frames := 7, cells := 1, slots := 6, locals := 106 } : Room) [.long w, .int k] X) : px_i l yX8_mend wsX8_mend ({ frames := 8, cells := 1, slots := 6, locals := 130 } : Room) [.ref o, .long w, .int k] X := by
  intro H0
  refine vx_ofW (cc := cX8_mend) (maxL := 4) (ret := (some .int)) (by decide) rfl ?_
  intro p e s m args below meth c s₁ B hml ht hv
  obtain ⟨rfl, rfl, hX⟩ := hv
  have hx := B.exec
  have hb := B.bytes
  have hr := B.returns
  have hts := atoms_spec (ws := wsX8_mend) B.pre
  have hown : s.vm.findClass RX8 = some m.cls := findClass_of_methodNamed B.named
  have hlocks := B.notSynchronized
  have hS : va_S (xA s) s.heap s.heap [] := va_S.rf
  have hA : ∀ q : Nat, s.heap.size ≤ q → xA s q := fun _ h => h
  have hl := lv_entry ([.ref o, .long w, .int k]) (n := 4) (Nat.le_of_ble_eq_true rfl)
  rw [lg_entry_eq]
  generalize (lg_sl ([.ref o, .long w, .int k]) ++ List.replicate (4 - (lg_sl ([.ref o, .long w, .int k])).length) Slot.unset).toArray = ls at hl ⊢
  have hl : lv_has ls 4 [(0, .ref o), (1, .long w), (3, .int k)] := hl
  refine lv_lload_n hx hb dX8_mend_0 rfl (lv_at hl 1 rfl) ?_
  refine lv_iload_n hx hb dX8_mend_1 rfl (lv_at hl 2 rfl) ?_
  exact px_outl (As := [.long w, .int k]) (rest := []) ⟨hx, hb, hml, hown, hts⟩ (hM) (va_cwS 2 hts gX8_mend_X8_repairedOrThrow rfl rfl rfl (by decide +kernel) ⟨(Nat.le_of_ble_eq_true rfl), (Nat.le_of_ble_eq_true rfl)⟩) rfl hl.1 (lv_room (Nat.le_of_ble_eq_true rfl)) dX8_mend_2 ⟨(Nat.le_of_ble_eq_true rfl), (Nat.le_of_ble_eq_true rfl)⟩ hS rfl hX ht hlocks
set_option maxHeartbeats 4000000 in
set_option maxRecDepth 100000 in
theorem x_X8_mended (l : Launch) (hstk : l.stackTraces = false) (o : Nat) (w : Int64) (k : Int32) (X : String) (hM : px_l l yX8_repairedOrThrow wsX8_repairedOrThrow ({ frames := 7, cells := 1, slots := 6, locals := 106 } : Room) [.long w, .int k] X) : px_i l yX8_mended wsX8_mended ({ frames := 8, cells := 1, slots := 6, locals := 130 } : Room) [.ref o, .long w, .int k] X := by
  intro H0
  refine vx_ofW (cc := cX8_mended) (maxL := 4) (ret := (some .int)) (by decide) rfl ?_
  intro p e s m args below meth c s₁ B hml ht hv
  obtain ⟨rfl, rfl, hX⟩ := hv
  have hx := B.exec
  have hb := B.bytes
  have hr := B.returns
  have hts := atoms_spec (ws := wsX8_mended) B.pre
  have hown : s.vm.findClass RX8 = some m.cls := findClass_of_methodNamed B.named
  have hlocks := B.notSynchronized
  have hS : va_S (xA s) s.heap s.heap [] := va_S.rf
  have hA : ∀ q : Nat, s.heap.size ≤ q → xA s q := fun _ h => h
  have hl := lv_entry ([.ref o, .long w, .int k]) (n := 4) (Nat.le_of_ble_eq_true rfl)
  rw [lg_entry_eq]
  generalize (lg_sl ([.ref o, .long w, .int k]) ++ List.replicate (4 - (lg_sl ([.ref o, .long w, .int k])).length) Slot.unset).toArray = ls at hl ⊢
  have hl : lv_has ls 4 [(0, .ref o), (1, .long w), (3, .int k)] := hl
  refine lv_lload_n hx hb dX8_mended_0 rfl (lv_at hl 1 rfl) ?_
  refine lv_lload_n hx hb dX8_mended_1 rfl (lv_at hl 1 rfl) ?_
  refine lv_iload_n hx hb dX8_mended_2 rfl (lv_at hl 2 rfl) ?_
  exact px_outl (As := [.long w, .int k]) (rest := [.long w]) ⟨hx, hb, hml, hown, hts⟩ (hM) (va_cwS 2 hts gX8_mended_X8_repairedOrThrow rfl rfl rfl (by decide +kernel) ⟨(Nat.le_of_ble_eq_true rfl), (Nat.le_of_ble_eq_true rfl)⟩) rfl hl.1 (lv_room (Nat.le_of_ble_eq_true rfl)) dX8_mended_3 ⟨(Nat.le_of_ble_eq_true rfl), (Nat.le_of_ble_eq_true rfl)⟩ hS rfl hX ht hlocks
set_option maxHeartbeats 4000000 in
set_option maxRecDepth 100000 in
theorem c_X8_encode (l : Launch) (o : Nat) (d b : Int32) (h1 : ¬ d.toInt64 < 0) (h2 : ¬ 255 < d.toInt64) (h3 : ¬ b.toInt64 < 0) (h4 : ¬ 1 < b.toInt64) : pc_i l yX8_encode wsX8_encode ({ frames := 1, cells := 0, slots := 0, locals := 26 } : Room) [.ref o, .int d, .int b] (fByte d b) := by
  intro H0
  refine Met.ofW (cc := cX8_encode) (maxL := 3) (ret := (some .int)) (by decide) rfl ?_
  intro p e s m args below meth c s₁ B hml hv
  obtain ⟨rfl, rfl⟩ := hv
  have hx := B.exec
  have hb := B.bytes
  have hr := B.returns
  have hts := atoms_spec (ws := wsX8_encode) B.pre
  have hown : s.vm.findClass RX8 = some m.cls := findClass_of_methodNamed B.named
  have hlocks := B.notSynchronized
  have hS : va_S (fun q => s.heap.size ≤ q) s.heap s.heap [] := va_S.rf
  have hA : ∀ q : Nat, s.heap.size ≤ q → (fun q : Nat => s.heap.size ≤ q) q := fun _ h => h
  have hl := lv_entry ([.ref o, .int d, .int b]) (n := 3) (Nat.le_of_ble_eq_true rfl)
  rw [lg_entry_eq]
  generalize (lg_sl ([.ref o, .int d, .int b]) ++ List.replicate (3 - (lg_sl ([.ref o, .int d, .int b])).length) Slot.unset).toArray = ls at hl ⊢
  have hl : lv_has ls 3 [(0, .ref o), (1, .int d), (2, .int b)] := hl
  refine lv_iload_n hx hb dX8_encode_0 rfl (lv_at hl 1 rfl) ?_
  refine lv_i2l hx hb dX8_encode_1 rfl ?_
  refine lv_lconst (v := 0) hx hb dX8_encode_2 (by decide) ?_
  refine lv_ldc2 (v := 255) hx hb hown (hts (.constantLong RX8 75 255) (by decide +kernel)) dX8_encode_3 ?_
  refine pu_callv (As := [.long d.toInt64, .long 0, .long 255]) (rest := []) ⟨hx, hb, hml, hown, hts⟩ (c_X8_checkRange l d.toInt64 0 255 h1 h2) (va_cwS 3 hts gX8_encode_X8_checkRange rfl rfl rfl (by decide +kernel) ⟨(Nat.le_of_ble_eq_true rfl), (Nat.le_of_ble_eq_true rfl)⟩) rfl hl.1 (lv_room (Nat.le_of_ble_eq_true rfl)) dX8_encode_6 ⟨Nat.zero_le _, Nat.zero_le _⟩ hS hA rfl (fun locs hS => ?_)
  refine lv_iload_n hx hb dX8_encode_9 rfl (lv_at hl 2 rfl) ?_
  refine lv_i2l hx hb dX8_encode_10 rfl ?_
  refine lv_lconst (v := 0) hx hb dX8_encode_11 (by decide) ?_
  refine lv_lconst (v := 1) hx hb dX8_encode_12 (by decide) ?_
  refine pu_callv (As := [.long b.toInt64, .long 0, .long 1]) (rest := []) ⟨hx, hb, hml, hown, hts⟩ (c_X8_checkRange l b.toInt64 0 1 h3 h4) (va_cwS 3 hts gX8_encode_X8_checkRange rfl rfl rfl (by decide +kernel) ⟨(Nat.le_of_ble_eq_true rfl), (Nat.le_of_ble_eq_true rfl)⟩) rfl hl.1 (lv_room (Nat.le_of_ble_eq_true rfl)) dX8_encode_13 ⟨Nat.zero_le _, Nat.zero_le _⟩ hS hA rfl (fun locs hS => ?_)
  refine lv_iload_n hx hb dX8_encode_16 rfl (lv_at hl 1 rfl) ?_
  refine lv_iload_n hx hb dX8_encode_17 rfl (lv_at hl 2 rfl) ?_
  refine pu_calli (As := [.int d, .int b]) (rest := []) ⟨hx, hb, hml, hown, hts⟩ (c_X1_ofByte l d b) (va_cwS 2 hts gX8_encode_X1_ofByte rfl rfl rfl (by decide +kernel) ⟨(Nat.le_of_ble_eq_true rfl), (Nat.le_of_ble_eq_true rfl)⟩) rfl hl.1 (lv_room (Nat.le_of_ble_eq_true rfl)) dX8_encode_18 ⟨Nat.zero_le _, Nat.zero_le _⟩ hS hA rfl (fun locs hS => ?_)
  exact W.iret (v := (fByte d b)) hx hb hr (fun t ht hW => ⟨⟨(fByte d b), (), rfl, rfl, ht⟩, hS.F ht⟩) hS.2.2 dX8_encode_21
set_option maxHeartbeats 4000000 in
set_option maxRecDepth 100000 in
theorem x_X8_encode_1 (l : Launch) (hstk : l.stackTraces = false) (o : Nat) (d b : Int32) (h : d.toInt64 < 0 ∨ 255 < d.toInt64) : px_i l yX8_encode wsX8_encode ({ frames := 7, cells := 1, slots := 6, locals := 106 } : Room) [.ref o, .int d, .int b] "java/lang/IllegalArgumentException" := by
  intro H0
  refine vx_ofW (cc := cX8_encode) (maxL := 3) (ret := (some .int)) (by decide) rfl ?_
  intro p e s m args below meth c s₁ B hml ht hv
  obtain ⟨rfl, rfl, hX⟩ := hv
  have hx := B.exec
  have hb := B.bytes
  have hr := B.returns
  have hts := atoms_spec (ws := wsX8_encode) B.pre
  have hown : s.vm.findClass RX8 = some m.cls := findClass_of_methodNamed B.named
  have hlocks := B.notSynchronized
  have hS : va_S (xA s) s.heap s.heap [] := va_S.rf
  have hA : ∀ q : Nat, s.heap.size ≤ q → xA s q := fun _ h => h
  have hl := lv_entry ([.ref o, .int d, .int b]) (n := 3) (Nat.le_of_ble_eq_true rfl)
  rw [lg_entry_eq]
  generalize (lg_sl ([.ref o, .int d, .int b]) ++ List.replicate (3 - (lg_sl ([.ref o, .int d, .int b])).length) Slot.unset).toArray = ls at hl ⊢
  have hl : lv_has ls 3 [(0, .ref o), (1, .int d), (2, .int b)] := hl
  refine lv_iload_n hx hb dX8_encode_0 rfl (lv_at hl 1 rfl) ?_
  refine lv_i2l hx hb dX8_encode_1 rfl ?_
  refine lv_lconst (v := 0) hx hb dX8_encode_2 (by decide) ?_
  refine lv_ldc2 (v := 255) hx hb hown (hts (.constantLong RX8 75 255) (by decide +kernel)) dX8_encode_3 ?_
  exact px_outv (As := [.long d.toInt64, .long 0, .long 255]) (rest := []) ⟨hx, hb, hml, hown, hts⟩ (x_X8_checkRange l hstk d.toInt64 0 255 h) (va_cwS 3 hts gX8_encode_X8_checkRange rfl rfl rfl (by decide +kernel) ⟨(Nat.le_of_ble_eq_true rfl), (Nat.le_of_ble_eq_true rfl)⟩) rfl hl.1 (lv_room (Nat.le_of_ble_eq_true rfl)) dX8_encode_6 ⟨(Nat.le_of_ble_eq_true rfl), (Nat.le_of_ble_eq_true rfl)⟩ hS rfl hX ht hlocks
set_option maxHeartbeats 4000000 in
set_option maxRecDepth 100000 in
theorem x_X8_encode_2 (l : Launch) (hstk : l.stackTraces = false) (o : Nat) (d b : Int32) (h1 : ¬ d.toInt64 < 0) (h2 : ¬ 255 < d.toInt64) (h : b.toInt64 < 0 ∨ 1 < b.toInt64) : px_i l yX8_encode wsX8_encode ({ frames := 7, cells := 1, slots := 6, locals := 106 } : Room) [.ref o, .int d, .int b] "java/lang/IllegalArgumentException" := by
  intro H0
  refine vx_ofW (cc := cX8_encode) (maxL := 3) (ret := (some .int)) (by decide) rfl ?_
  intro p e s m args below meth c s₁ B hml ht hv
  obtain ⟨rfl, rfl, hX⟩ := hv
  have hx := B.exec
  have hb := B.bytes
  have hr := B.returns
  have hts := atoms_spec (ws := wsX8_encode) B.pre
  have hown : s.vm.findClass RX8 = some m.cls := findClass_of_methodNamed B.named
  have hlocks := B.notSynchronized
  have hS : va_S (xA s) s.heap s.heap [] := va_S.rf
  have hA : ∀ q : Nat, s.heap.size ≤ q → xA s q := fun _ h => h
  have hl := lv_entry ([.ref o, .int d, .int b]) (n := 3) (Nat.le_of_ble_eq_true rfl)
  rw [lg_entry_eq]
  generalize (lg_sl ([.ref o, .int d, .int b]) ++ List.replicate (3 - (lg_sl ([.ref o, .int d, .int b])).length) Slot.unset).toArray = ls at hl ⊢
  have hl : lv_has ls 3 [(0, .ref o), (1, .int d), (2, .int b)] := hl
  refine lv_iload_n hx hb dX8_encode_0 rfl (lv_at hl 1 rfl) ?_
  refine lv_i2l hx hb dX8_encode_1 rfl ?_
  refine lv_lconst (v := 0) hx hb dX8_encode_2 (by decide) ?_
  refine lv_ldc2 (v := 255) hx hb hown (hts (.constantLong RX8 75 255) (by decide +kernel)) dX8_encode_3 ?_
  refine pu_callv (As := [.long d.toInt64, .long 0, .long 255]) (rest := []) ⟨hx, hb, hml, hown, hts⟩ (c_X8_checkRange l d.toInt64 0 255 h1 h2) (va_cwS 3 hts gX8_encode_X8_checkRange rfl rfl rfl (by decide +kernel) ⟨(Nat.le_of_ble_eq_true rfl), (Nat.le_of_ble_eq_true rfl)⟩) rfl hl.1 (lv_room (Nat.le_of_ble_eq_true rfl)) dX8_encode_6 ⟨Nat.zero_le _, Nat.zero_le _⟩ hS hA rfl (fun locs hS => ?_)
  refine lv_iload_n hx hb dX8_encode_9 rfl (lv_at hl 2 rfl) ?_
  refine lv_i2l hx hb dX8_encode_10 rfl ?_
  refine lv_lconst (v := 0) hx hb dX8_encode_11 (by decide) ?_
  refine lv_lconst (v := 1) hx hb dX8_encode_12 (by decide) ?_
  exact px_outv (As := [.long b.toInt64, .long 0, .long 1]) (rest := []) ⟨hx, hb, hml, hown, hts⟩ (x_X8_checkRange l hstk b.toInt64 0 1 h) (va_cwS 3 hts gX8_encode_X8_checkRange rfl rfl rfl (by decide +kernel) ⟨(Nat.le_of_ble_eq_true rfl), (Nat.le_of_ble_eq_true rfl)⟩) rfl hl.1 (lv_room (Nat.le_of_ble_eq_true rfl)) dX8_encode_13 ⟨(Nat.le_of_ble_eq_true rfl), (Nat.le_of_ble_eq_true rfl)⟩ hS rfl hX ht hlocks
set_option maxHeartbeats 4000000 in
set_option maxRecDepth 100000 in
theorem c_X8_decode (l : Launch) (o : Nat) (cl b : Int32) (h1 : ¬ cl.toInt64 < 0) (h2 : ¬ 65535 < cl.toInt64) (h3 : ¬ b.toInt64 < 0) (h4 : ¬ 1 < b.toInt64) (he : fByte (fData cl) b = cl) : pc_i l yX8_decode wsX8_decode ({ frames := 1, cells := 0, slots := 0, locals := 26 } : Room) [.ref o, .int cl, .int b] (fData cl) := by
  intro H0
  refine Met.ofW (cc := cX8_decode) (maxL := 4) (ret := (some .int)) (by decide) rfl ?_
  intro p e s m args below meth c s₁ B hml hv
  obtain ⟨rfl, rfl⟩ := hv
  have hx := B.exec
  have hb := B.bytes
  have hr := B.returns
  have hts := atoms_spec (ws := wsX8_decode) B.pre
  have hown : s.vm.findClass RX8 = some m.cls := findClass_of_methodNamed B.named
  have hlocks := B.notSynchronized
  have hS : va_S (fun q => s.heap.size ≤ q) s.heap s.heap [] := va_S.rf
  have hA : ∀ q : Nat, s.heap.size ≤ q → (fun q : Nat => s.heap.size ≤ q) q := fun _ h => h
  have hl := lv_entry ([.ref o, .int cl, .int b]) (n := 4) (Nat.le_of_ble_eq_true rfl)
  rw [lg_entry_eq]
  generalize (lg_sl ([.ref o, .int cl, .int b]) ++ List.replicate (4 - (lg_sl ([.ref o, .int cl, .int b])).length) Slot.unset).toArray = ls at hl ⊢
  have hl : lv_has ls 4 [(0, .ref o), (1, .int cl), (2, .int b)] := hl
  refine lv_iload_n hx hb dX8_decode_0 rfl (lv_at hl 1 rfl) ?_
  refine lv_i2l hx hb dX8_decode_1 rfl ?_
  refine lv_lconst (v := 0) hx hb dX8_decode_2 (by decide) ?_
  refine lv_ldc2 (v := 65535) hx hb hown (hts (.constantLong RX8 51 65535) (by decide +kernel)) dX8_decode_3 ?_
  refine pu_callv (As := [.long cl.toInt64, .long 0, .long 65535]) (rest := []) ⟨hx, hb, hml, hown, hts⟩ (c_X8_checkRange l cl.toInt64 0 65535 h1 h2) (va_cwS 3 hts gX8_decode_X8_checkRange rfl rfl rfl (by decide +kernel) ⟨(Nat.le_of_ble_eq_true rfl), (Nat.le_of_ble_eq_true rfl)⟩) rfl hl.1 (lv_room (Nat.le_of_ble_eq_true rfl)) dX8_decode_6 ⟨Nat.zero_le _, Nat.zero_le _⟩ hS hA rfl (fun locs hS => ?_)
  refine lv_iload_n hx hb dX8_decode_9 rfl (lv_at hl 2 rfl) ?_
  refine lv_i2l hx hb dX8_decode_10 rfl ?_
  refine lv_lconst (v := 0) hx hb dX8_decode_11 (by decide) ?_
  refine lv_lconst (v := 1) hx hb dX8_decode_12 (by decide) ?_
  refine pu_callv (As := [.long b.toInt64, .long 0, .long 1]) (rest := []) ⟨hx, hb, hml, hown, hts⟩ (c_X8_checkRange l b.toInt64 0 1 h3 h4) (va_cwS 3 hts gX8_decode_X8_checkRange rfl rfl rfl (by decide +kernel) ⟨(Nat.le_of_ble_eq_true rfl), (Nat.le_of_ble_eq_true rfl)⟩) rfl hl.1 (lv_room (Nat.le_of_ble_eq_true rfl)) dX8_decode_13 ⟨Nat.zero_le _, Nat.zero_le _⟩ hS hA rfl (fun locs hS => ?_)
  refine lv_iload_n hx hb dX8_decode_16 rfl (lv_at hl 1 rfl) ?_
  refine pu_calli (As := [.int cl]) (rest := []) ⟨hx, hb, hml, hown, hts⟩ (c_X1_dataOf l cl) (va_cwS 1 hts gX8_decode_X1_dataOf rfl rfl rfl (by decide +kernel) ⟨(Nat.le_of_ble_eq_true rfl), (Nat.le_of_ble_eq_true rfl)⟩) rfl hl.1 (lv_room (Nat.le_of_ble_eq_true rfl)) dX8_decode_17 ⟨Nat.zero_le _, Nat.zero_le _⟩ hS hA rfl (fun locs hS => ?_)
  refine lv_istore_n (lv' := [(3, .int (fData cl)), (0, .ref o), (1, .int cl), (2, .int b)]) hx hb dX8_decode_20 rfl hl (by decide) rfl (fun ls hl => ?_)
  refine lv_iload_n hx hb dX8_decode_21 rfl (lv_at hl 0 rfl) ?_
  refine lv_iload_n hx hb dX8_decode_22 rfl (lv_at hl 3 rfl) ?_
  refine pu_calli (As := [.int (fData cl), .int b]) (rest := []) ⟨hx, hb, hml, hown, hts⟩ (c_X1_ofByte l (fData cl) b) (va_cwS 2 hts gX8_decode_X1_ofByte rfl rfl rfl (by decide +kernel) ⟨(Nat.le_of_ble_eq_true rfl), (Nat.le_of_ble_eq_true rfl)⟩) rfl hl.1 (lv_room (Nat.le_of_ble_eq_true rfl)) dX8_decode_23 ⟨Nat.zero_le _, Nat.zero_le _⟩ hS hA rfl (fun locs hS => ?_)
  refine lv_iload_n hx hb dX8_decode_26 rfl (lv_at hl 2 rfl) ?_
  refine lv_icmp_eq (tgt := 38) hx hb dX8_decode_27 (by decide) (fun c_27 => ?_) (fun c_27 => absurd c_27 (fun h => h he))
  refine lv_iload_n hx hb dX8_decode_38 rfl (lv_at hl 0 rfl) ?_
  exact W.iret (v := (fData cl)) hx hb hr (fun t ht hW => ⟨⟨(fData cl), (), rfl, rfl, ht⟩, hS.F ht⟩) hS.2.2 dX8_decode_39
set_option maxHeartbeats 4000000 in
set_option maxRecDepth 100000 in
theorem x_X8_decode_1 (l : Launch) (hstk : l.stackTraces = false) (o : Nat) (cl b : Int32) (h : cl.toInt64 < 0 ∨ 65535 < cl.toInt64) : px_i l yX8_decode wsX8_decode ({ frames := 7, cells := 1, slots := 6, locals := 106 } : Room) [.ref o, .int cl, .int b] "java/lang/IllegalArgumentException" := by
  intro H0
  refine vx_ofW (cc := cX8_decode) (maxL := 4) (ret := (some .int)) (by decide) rfl ?_
  intro p e s m args below meth c s₁ B hml ht hv
  obtain ⟨rfl, rfl, hX⟩ := hv
  have hx := B.exec
  have hb := B.bytes
  have hr := B.returns
  have hts := atoms_spec (ws := wsX8_decode) B.pre
  have hown : s.vm.findClass RX8 = some m.cls := findClass_of_methodNamed B.named
  have hlocks := B.notSynchronized
  have hS : va_S (xA s) s.heap s.heap [] := va_S.rf
  have hA : ∀ q : Nat, s.heap.size ≤ q → xA s q := fun _ h => h
  have hl := lv_entry ([.ref o, .int cl, .int b]) (n := 4) (Nat.le_of_ble_eq_true rfl)
  rw [lg_entry_eq]
  generalize (lg_sl ([.ref o, .int cl, .int b]) ++ List.replicate (4 - (lg_sl ([.ref o, .int cl, .int b])).length) Slot.unset).toArray = ls at hl ⊢
  have hl : lv_has ls 4 [(0, .ref o), (1, .int cl), (2, .int b)] := hl
  refine lv_iload_n hx hb dX8_decode_0 rfl (lv_at hl 1 rfl) ?_
  refine lv_i2l hx hb dX8_decode_1 rfl ?_
  refine lv_lconst (v := 0) hx hb dX8_decode_2 (by decide) ?_
  refine lv_ldc2 (v := 65535) hx hb hown (hts (.constantLong RX8 51 65535) (by decide +kernel)) dX8_decode_3 ?_
  exact px_outv (As := [.long cl.toInt64, .long 0, .long 65535]) (rest := []) ⟨hx, hb, hml, hown, hts⟩ (x_X8_checkRange l hstk cl.toInt64 0 65535 h) (va_cwS 3 hts gX8_decode_X8_checkRange rfl rfl rfl (by decide +kernel) ⟨(Nat.le_of_ble_eq_true rfl), (Nat.le_of_ble_eq_true rfl)⟩) rfl hl.1 (lv_room (Nat.le_of_ble_eq_true rfl)) dX8_decode_6 ⟨(Nat.le_of_ble_eq_true rfl), (Nat.le_of_ble_eq_true rfl)⟩ hS rfl hX ht hlocks
set_option maxHeartbeats 4000000 in
set_option maxRecDepth 100000 in
theorem x_X8_decode_2 (l : Launch) (hstk : l.stackTraces = false) (o : Nat) (cl b : Int32) (h1 : ¬ cl.toInt64 < 0) (h2 : ¬ 65535 < cl.toInt64) (h3 : ¬ b.toInt64 < 0) (h4 : ¬ 1 < b.toInt64) (hne : ¬ fByte (fData cl) b = cl) : px_i l yX8_decode wsX8_decode ({ frames := 7, cells := 1, slots := 6, locals := 106 } : Room) [.ref o, .int cl, .int b] "java/util/NoSuchElementException" := by
  intro H0
  refine vx_ofW (cc := cX8_decode) (maxL := 4) (ret := (some .int)) (by decide) rfl ?_
  intro p e s m args below meth c s₁ B hml ht hv
  obtain ⟨rfl, rfl, hX⟩ := hv
  have hx := B.exec
  have hb := B.bytes
  have hr := B.returns
  have hts := atoms_spec (ws := wsX8_decode) B.pre
  have hown : s.vm.findClass RX8 = some m.cls := findClass_of_methodNamed B.named
  have hlocks := B.notSynchronized
  have hS : va_S (xA s) s.heap s.heap [] := va_S.rf
  have hA : ∀ q : Nat, s.heap.size ≤ q → xA s q := fun _ h => h
  have hl := lv_entry ([.ref o, .int cl, .int b]) (n := 4) (Nat.le_of_ble_eq_true rfl)
  rw [lg_entry_eq]
  generalize (lg_sl ([.ref o, .int cl, .int b]) ++ List.replicate (4 - (lg_sl ([.ref o, .int cl, .int b])).length) Slot.unset).toArray = ls at hl ⊢
  have hl : lv_has ls 4 [(0, .ref o), (1, .int cl), (2, .int b)] := hl
  refine lv_iload_n hx hb dX8_decode_0 rfl (lv_at hl 1 rfl) ?_
  refine lv_i2l hx hb dX8_decode_1 rfl ?_
  refine lv_lconst (v := 0) hx hb dX8_decode_2 (by decide) ?_
  refine lv_ldc2 (v := 65535) hx hb hown (hts (.constantLong RX8 51 65535) (by decide +kernel)) dX8_decode_3 ?_
  refine pu_callv (As := [.long cl.toInt64, .long 0, .long 65535]) (rest := []) ⟨hx, hb, hml, hown, hts⟩ (c_X8_checkRange l cl.toInt64 0 65535 h1 h2) (va_cwS 3 hts gX8_decode_X8_checkRange rfl rfl rfl (by decide +kernel) ⟨(Nat.le_of_ble_eq_true rfl), (Nat.le_of_ble_eq_true rfl)⟩) rfl hl.1 (lv_room (Nat.le_of_ble_eq_true rfl)) dX8_decode_6 ⟨Nat.zero_le _, Nat.zero_le _⟩ hS hA rfl (fun locs hS => ?_)
  refine lv_iload_n hx hb dX8_decode_9 rfl (lv_at hl 2 rfl) ?_
  refine lv_i2l hx hb dX8_decode_10 rfl ?_
  refine lv_lconst (v := 0) hx hb dX8_decode_11 (by decide) ?_
  refine lv_lconst (v := 1) hx hb dX8_decode_12 (by decide) ?_
  refine pu_callv (As := [.long b.toInt64, .long 0, .long 1]) (rest := []) ⟨hx, hb, hml, hown, hts⟩ (c_X8_checkRange l b.toInt64 0 1 h3 h4) (va_cwS 3 hts gX8_decode_X8_checkRange rfl rfl rfl (by decide +kernel) ⟨(Nat.le_of_ble_eq_true rfl), (Nat.le_of_ble_eq_true rfl)⟩) rfl hl.1 (lv_room (Nat.le_of_ble_eq_true rfl)) dX8_decode_13 ⟨Nat.zero_le _, Nat.zero_le _⟩ hS hA rfl (fun locs hS => ?_)
  refine lv_iload_n hx hb dX8_decode_16 rfl (lv_at hl 1 rfl) ?_
  refine pu_calli (As := [.int cl]) (rest := []) ⟨hx, hb, hml, hown, hts⟩ (c_X1_dataOf l cl) (va_cwS 1 hts gX8_decode_X1_dataOf rfl rfl rfl (by decide +kernel) ⟨(Nat.le_of_ble_eq_true rfl), (Nat.le_of_ble_eq_true rfl)⟩) rfl hl.1 (lv_room (Nat.le_of_ble_eq_true rfl)) dX8_decode_17 ⟨Nat.zero_le _, Nat.zero_le _⟩ hS hA rfl (fun locs hS => ?_)
  refine lv_istore_n (lv' := [(3, .int (fData cl)), (0, .ref o), (1, .int cl), (2, .int b)]) hx hb dX8_decode_20 rfl hl (by decide) rfl (fun ls hl => ?_)
  refine lv_iload_n hx hb dX8_decode_21 rfl (lv_at hl 0 rfl) ?_
  refine lv_iload_n hx hb dX8_decode_22 rfl (lv_at hl 3 rfl) ?_
  refine pu_calli (As := [.int (fData cl), .int b]) (rest := []) ⟨hx, hb, hml, hown, hts⟩ (c_X1_ofByte l (fData cl) b) (va_cwS 2 hts gX8_decode_X1_ofByte rfl rfl rfl (by decide +kernel) ⟨(Nat.le_of_ble_eq_true rfl), (Nat.le_of_ble_eq_true rfl)⟩) rfl hl.1 (lv_room (Nat.le_of_ble_eq_true rfl)) dX8_decode_23 ⟨Nat.zero_le _, Nat.zero_le _⟩ hS hA rfl (fun locs hS => ?_)
  refine lv_iload_n hx hb dX8_decode_26 rfl (lv_at hl 2 rfl) ?_
  refine lv_icmp_eq (tgt := 38) hx hb dX8_decode_27 (by decide) (fun c_27 => absurd c_27 hne) (fun c_27 => ?_)
  exact vx_throw0 (own := RX8) (cls := "java/util/NoSuchElementException") (names := xNames) (ik := 87) (ic := 89) (A := xA s) hx hb hstk hown (by decide) (by decide) (hts (.classLink RX8 87 "java/util/NoSuchElementException") (by decide +kernel)) (hts (.initialized "java/util/NoSuchElementException") (by decide +kernel)) (vx_hat (fun w hw => hts w (List.mem_cons_of_mem _ (List.mem_append_left _ (List.mem_append_right _ hw)))) xB_NSE (xK_B hX)) xgood_NSE hX.2.1 hX.2.2 hS (by rw [hml]; exact hl.1) dX8_decode_30 dX8_decode_33 dX8_decode_34 dX8_decode_37 (fun x hx => (ht x hx).elim) (Nat.le_of_ble_eq_true rfl) (Nat.le_of_ble_eq_true rfl) (Nat.le_of_ble_eq_true rfl) (Nat.le_of_ble_eq_true rfl) hlocks (fun t ha hz hk => ⟨(), trivial, rfl, hz, fun q h1 _ => hk q h1⟩) hS.2.2 (Nat.le_of_ble_eq_true rfl) (Nat.le_of_ble_eq_true rfl)
set_option maxHeartbeats 4000000 in
set_option maxRecDepth 100000 in
theorem x_X8_sample (l : Launch) (hstk : l.stackTraces = false) (o : Nat) (x : Int32) (h : x.toInt64 < -40 ∨ 40 < x.toInt64) : px_i l yX8_sample wsX8_sample ({ frames := 7, cells := 1, slots := 6, locals := 106 } : Room) [.ref o, .int x] "java/lang/IllegalArgumentException" := by
  intro H0
  refine vx_ofW (cc := cX8_sample) (maxL := 2) (ret := (some .int)) (by decide) rfl ?_
  intro p e s m args below meth c s₁ B hml ht hv
  obtain ⟨rfl, rfl, hX⟩ := hv
  have hx := B.exec
  have hb := B.bytes
  have hr := B.returns
  have hts := atoms_spec (ws := wsX8_sample) B.pre
  have hown : s.vm.findClass RX8 = some m.cls := findClass_of_methodNamed B.named
  have hlocks := B.notSynchronized
  have hS : va_S (xA s) s.heap s.heap [] := va_S.rf
  have hA : ∀ q : Nat, s.heap.size ≤ q → xA s q := fun _ h => h
  have hl := lv_entry ([.ref o, .int x]) (n := 2) (Nat.le_of_ble_eq_true rfl)
  rw [lg_entry_eq]
  generalize (lg_sl ([.ref o, .int x]) ++ List.replicate (2 - (lg_sl ([.ref o, .int x])).length) Slot.unset).toArray = ls at hl ⊢
  have hl : lv_has ls 2 [(0, .ref o), (1, .int x)] := hl
  refine lv_iload_n hx hb dX8_sample_0 rfl (lv_at hl 1 rfl) ?_
  refine lv_i2l hx hb dX8_sample_1 rfl ?_
  refine lv_ldc2 (v := (-40)) hx hb hown (hts (.constantLong RX8 90 (-40)) (by decide +kernel)) dX8_sample_2 ?_
  refine lv_ldc2 (v := 40) hx hb hown (hts (.constantLong RX8 92 40) (by decide +kernel)) dX8_sample_5 ?_
  exact px_outv (As := [.long x.toInt64, .long (-40), .long 40]) (rest := []) ⟨hx, hb, hml, hown, hts⟩ (x_X8_checkRange l hstk x.toInt64 (-40) 40 h) (va_cwS 3 hts gX8_sample_X8_checkRange rfl rfl rfl (by decide +kernel) ⟨(Nat.le_of_ble_eq_true rfl), (Nat.le_of_ble_eq_true rfl)⟩) rfl hl.1 (lv_room (Nat.le_of_ble_eq_true rfl)) dX8_sample_8 ⟨(Nat.le_of_ble_eq_true rfl), (Nat.le_of_ble_eq_true rfl)⟩ hS rfl hX ht hlocks
end
section
/-! The law's own calls of the class, with their handlers. lo_: the answer comes back, the heap stays. lx_: X is thrown, caught, and a number comes back; one new cell of six slots. -/
def rcv (o : Nat) (U : State) : Prop := ∃ cellB : Cell, U.heap[o]? = some cellB ∧ cellB.vm.isStatics = false ∧ U.vm.findClass RX8 = some cellB.cls
theorem rcv_warm {o : Nat} {s U : State} (hW : s.WarmedH U.vm) (hU : U.heap = s.heap) (h : rcv o s) : rcv o U := by
  obtain ⟨cb, h1, h2, h3⟩ := h
  exact ⟨cb, by rw [hU]; exact h1, h2, by rw [hW.alike.findClass]; exact h3⟩
theorem rcv_of {o : Nat} {s U : State} {H : Heap} (hW : s.WarmedH U.vm) (hU : U.heap = H) (h : ∃ cellB : Cell, H[o]? = some cellB ∧ cellB.vm.isStatics = false ∧ s.vm.findClass RX8 = some cellB.cls) : rcv o U := by
  obtain ⟨cb, h1, h2, h3⟩ := h
  exact ⟨cb, by rw [hU]; exact h1, h2, by rw [hW.alike.findClass]; exact h3⟩
abbrev xNc (U : State) : Prop := va_Nc "java/util/NoSuchElementException" "java/lang/IllegalArgumentException" U
def lo_i (l : Launch) (y : MethodName) (ws : List Cond) (rm : Room) (av : List Value) (o : Nat) (f : Int32) : Prop := ∀ H0 : Heap, Met l y ws rm (va_Pc av (fun U => U.heap = H0 ∧ rcv o U)) (va_Qi (fun (r : Int32) (_ : Unit) => r = f) (fun _ t => t.heap = H0) (fun q => H0.size ≤ q)) 0 0 (fun q => H0.size ≤ q)
def lo_l (l : Launch) (y : MethodName) (ws : List Cond) (rm : Room) (av : List Value) (o : Nat) (f : Int64) : Prop := ∀ H0 : Heap, Met l y ws rm (va_Pc av (fun U => U.heap = H0 ∧ rcv o U)) (va_Ql (fun (r : Int64) (_ : Unit) => r = f) (fun _ t => t.heap = H0) (fun q => H0.size ≤ q)) 0 0 (fun q => H0.size ≤ q)
def lx_i (l : Launch) (y : MethodName) (ws : List Cond) (rm : Room) (av : List Value) (o : Nat) (X : String) (f : Int32) : Prop := ∀ H0 : Heap, Met l y ws rm (va_Pc av (fun U => U.heap = H0 ∧ rcv o U ∧ xK X U ∧ xNc U)) (va_Qi (fun (r : Int32) (_ : Unit) => r = f) (fun _ _ => True) (fun q => H0.size ≤ q)) 1 6 (fun q => H0.size ≤ q)
def lx_l (l : Launch) (y : MethodName) (ws : List Cond) (rm : Room) (av : List Value) (o : Nat) (X : String) (f : Int64) : Prop := ∀ H0 : Heap, Met l y ws rm (va_Pc av (fun U => U.heap = H0 ∧ rcv o U ∧ xK X U ∧ xNc U)) (va_Ql (fun (r : Int64) (_ : Unit) => r = f) (fun _ _ => True) (fun q => H0.size ≤ q)) 1 6 (fun q => H0.size ≤ q)
theorem xK_at {X : String} {s U : State} {H : Heap} {locs : List Loc} {A0 : Nat → Prop} (h : xK X s) (hA : ∀ q, A0 q → s.heap.size ≤ q) (hS : va_S A0 s.heap H locs) (hW : s.WarmedH U.vm) (hU : U.heap = H) : xK X U := by
  obtain ⟨⟨h1, h2, h3, h4⟩, hu, hn⟩ := h
  have hkeep : ∀ a : Nat, a < s.heap.size → ¬ (fun q => s.heap.size ≤ q) a → H[a]? = s.heap[a]? := fun a h5 h6 => hS.2.1 a h5 (fun z => h6 (hA a z))
  refine ⟨⟨h1.warmD hW, h2.warmD hW, h3.warmD hW, h4.warmC hW⟩, ?_, ?_⟩
  · rw [hU]; exact vx_Zq.moved hW.alike ((hu.kept hkeep).narrow (fun q h5 => Nat.le_trans hS.1 h5))
  · rw [hU]; exact vx_Zq.moved hW.alike ((hn.kept hkeep).narrow (fun q h5 => Nat.le_trans hS.1 h5))
section LX
variable {p : Program} {l : Launch} {e : Env} {R : Room} {s : State} {m : MethodId} {args : Array Value} {below : List Frame} {meth : Method} {c : Code} {H : Heap} {locs : List Loc} {cells slots : Nat} {Q : State → Prop}
variable {y : MethodName} {bytes cc : ByteArray} {maxL nL n index : Nat} {ret : Option FieldType} {ws : List Cond} {rm : Room} {Ts : List Cond} {own C name : String} {As rest : List Value} {pc : Nat} {ls : Array Slot} {st0 : List Value} {b o : Nat} {X : String} {A0 : Nat → Prop} {H0 : Heap} {hh : List (Nat × Nat × Nat × Nat)}
/-- a call on an object that throws X, which this method's own table takes -/
theorem lx_catchi (S : CallFix p m c cc nL s args Ts own) (hM : px_i l y ws rm (.ref b :: As) X) (cw : CallW R s args own C index y bytes maxL ret ws rm 1 6 n) (hrec : ∃ cellB : Cell, s.heap[b]? = some cellB ∧ cellB.vm.isStatics = false ∧ s.vm.findClass C = some cellB.cls) (hn : As.length = n) (hsize : ls.size = nL)
    (hW : 2 * (F0 m pc ls st0).monitorRoom + (rest.map fun v => v.category).sum ≤ 8) (hdg : decode cc pc = .ok (.invokevirtual index, 3)) (hf : 0 + 1 ≤ R.cells ∧ 0 + 6 ≤ R.slots) (hS : va_S (xA s) s.heap s.heap locs) (hst : st0 = As.reverse ++ .ref b :: rest) (hK : xK X s)
    (pre : List ExceptionTableEntry) (x : ExceptionTableEntry) (suf : List ExceptionTableEntry) (hsplit : c.exceptionTable.toList = pre ++ x :: suf) (hpass : ∀ z ∈ pre, covers z pc = false ∨ (z.catchType ≠ 0 ∧ ∃ nm : String, (Cond.classLink own z.catchType nm).before args s = true ∧ va_Nc X nm s)) (hx : covers x pc = true) (h0 : x.catchType ≠ 0) (hlink : (Cond.classLink own x.catchType X).before args s = true)
    (kk : ∀ (q9 : Nat) (H1 : Heap) (locs1 : List Loc), va_S (xA s) s.heap H1 locs1 → W p l e R s m args below meth c H1 locs1 1 6 Q (F0 m x.handlerPc ls [.ref q9])) : W p l e R s m args below meth c s.heap locs 0 0 Q (F0 m pc ls st0) := by
  refine vx_calli (A1 := xA s) (AX := xA s) (vx_runV S (hM s.heap) cw ⟨fun a U g mk q => ⟨q.1, q.2.1, xK_blind U g mk a q.2.2⟩, hrec, fun U hU hW => ⟨rfl, hU, xK_warm hW hU hK⟩⟩ rfl hn hsize hst hW hdg hf) hS (fun q h1 h2 => absurd h1 (Nat.not_lt.mpr h2)) (fun q h => h) (fun q h1 h2 => absurd h1 (Nat.not_lt.mpr h2)) (fun E ce q9 u t H1 locs1 ht1 hvm hpx hBX hz hk hS1 hq hv9 hcl => ?_) (fun r u t H1 locs1 _ _ hp _ _ _ _ => hp.elim)
  have hE : E = X := hBX
  subst hE
  exact vx_catch S.2.2.2.1 pre x suf hsplit hpass hx h0 hlink (hK.1.2.2.2.use rfl) hq hv9 hcl (kk q9 H1 locs1 hS1)
theorem lx_catchl (S : CallFix p m c cc nL s args Ts own) (hM : px_l l y ws rm (.ref b :: As) X) (cw : CallW R s args own C index y bytes maxL ret ws rm 1 6 n) (hrec : ∃ cellB : Cell, s.heap[b]? = some cellB ∧ cellB.vm.isStatics = false ∧ s.vm.findClass C = some cellB.cls) (hn : As.length = n) (hsize : ls.size = nL)
    (hW : 2 * (F0 m pc ls st0).monitorRoom + (rest.map fun v => v.category).sum ≤ 8) (hdg : decode cc pc = .ok (.invokevirtual index, 3)) (hf : 0 + 1 ≤ R.cells ∧ 0 + 6 ≤ R.slots) (hS : va_S (xA s) s.heap s.heap locs) (hst : st0 = As.reverse ++ .ref b :: rest) (hK : xK X s)
    (pre : List ExceptionTableEntry) (x : ExceptionTableEntry) (suf : List ExceptionTableEntry) (hsplit : c.exceptionTable.toList = pre ++ x :: suf) (hpass : ∀ z ∈ pre, covers z pc = false ∨ (z.catchType ≠ 0 ∧ ∃ nm : String, (Cond.classLink own z.catchType nm).before args s = true ∧ va_Nc X nm s)) (hx : covers x pc = true) (h0 : x.catchType ≠ 0) (hlink : (Cond.classLink own x.catchType X).before args s = true)
    (kk : ∀ (q9 : Nat) (H1 : Heap) (locs1 : List Loc), va_S (xA s) s.heap H1 locs1 → W p l e R s m args below meth c H1 locs1 1 6 Q (F0 m x.handlerPc ls [.ref q9])) : W p l e R s m args below meth c s.heap locs 0 0 Q (F0 m pc ls st0) := by
  refine vx_calll (A1 := xA s) (AX := xA s) (vx_runV S (hM s.heap) cw ⟨fun a U g mk q => ⟨q.1, q.2.1, xK_blind U g mk a q.2.2⟩, hrec, fun U hU hW => ⟨rfl, hU, xK_warm hW hU hK⟩⟩ rfl hn hsize hst hW hdg hf) hS (fun q h1 h2 => absurd h1 (Nat.not_lt.mpr h2)) (fun q h => h) (fun q h1 h2 => absurd h1 (Nat.not_lt.mpr h2)) (fun E ce q9 u t H1 locs1 ht1 hvm hpx hBX hz hk hS1 hq hv9 hcl => ?_) (fun r u t H1 locs1 _ _ hp _ _ _ _ => hp.elim)
  have hE : E = X := hBX
  subst hE
  exact vx_catch S.2.2.2.1 pre x suf hsplit hpass hx h0 hlink (hK.1.2.2.2.use rfl) hq hv9 hcl (kk q9 H1 locs1 hS1)
/-- the law's call of such a method -/
theorem lo_calli {f : Int32} (S : CallFix p m c cc nL s args Ts own) (hM : lo_i l y ws rm As o f) (cw : vx_CSW R s args own index y bytes maxL ret hh ws rm 0 0 n) (hrec : ∃ cellB : Cell, H[o]? = some cellB ∧ cellB.vm.isStatics = false ∧ s.vm.findClass RX8 = some cellB.cls) (hn : As.length = n) (hsize : ls.size = nL)
    (hW : 2 * (F0 m pc ls st0).monitorRoom + (rest.map fun v => v.category).sum ≤ 8) (hdg : decode cc pc = .ok (.invokestatic index, 3)) (hf : cells + 0 ≤ R.cells ∧ slots + 0 ≤ R.slots) (hS : va_S A0 H0 H locs) (hA : ∀ q, H0.size ≤ q → A0 q) (hst : st0 = As.reverse ++ rest)
    (kk : ∀ locs1 : List Loc, va_S A0 H0 H locs1 → W p l e R s m args below meth c H locs1 cells slots Q (F0 m (pc + 3) ls (.int f :: rest))) : W p l e R s m args below meth c H locs cells slots Q (F0 m pc ls st0) := by
  refine va_calli (A1 := fun q => H.size ≤ q) (vx_runSW S (hM H) cw ⟨fun a U g mk q => ⟨q.1, q.2⟩, fun U hU hW => ⟨rfl, hU, rcv_of hW hU hrec⟩⟩ rfl hn hsize hst hW hdg hf) hS (fun q h1 h2 => absurd h1 (Nat.not_lt.mpr h2)) (fun q h => hA q (Nat.le_trans hS.1 h)) (fun r u t H1 locs1 ht hvm hp hB hz hk hS1 => ?_)
  have e1 : H1 = H := ht.symm.trans hB
  subst e1
  have e2 : r = f := hp
  subst e2
  exact kk locs1 hS1
theorem lo_calll {f : Int64} (S : CallFix p m c cc nL s args Ts own) (hM : lo_l l y ws rm As o f) (cw : vx_CSW R s args own index y bytes maxL ret hh ws rm 0 0 n) (hrec : ∃ cellB : Cell, H[o]? = some cellB ∧ cellB.vm.isStatics = false ∧ s.vm.findClass RX8 = some cellB.cls) (hn : As.length = n) (hsize : ls.size = nL)
    (hW : 2 * (F0 m pc ls st0).monitorRoom + (rest.map fun v => v.category).sum ≤ 8) (hdg : decode cc pc = .ok (.invokestatic index, 3)) (hf : cells + 0 ≤ R.cells ∧ slots + 0 ≤ R.slots) (hS : va_S A0 H0 H locs) (hA : ∀ q, H0.size ≤ q → A0 q) (hst : st0 = As.reverse ++ rest)
    (kk : ∀ locs1 : List Loc, va_S A0 H0 H locs1 → W p l e R s m args below meth c H locs1 cells slots Q (F0 m (pc + 3) ls (.long f :: rest))) : W p l e R s m args below meth c H locs cells slots Q (F0 m pc ls st0) := by
  refine va_calll (A1 := fun q => H.size ≤ q) (vx_runSW S (hM H) cw ⟨fun a U g mk q => ⟨q.1, q.2⟩, fun U hU hW => ⟨rfl, hU, rcv_of hW hU hrec⟩⟩ rfl hn hsize hst hW hdg hf) hS (fun q h1 h2 => absurd h1 (Nat.not_lt.mpr h2)) (fun q h => hA q (Nat.le_trans hS.1 h)) (fun r u t H1 locs1 ht hvm hp hB hz hk hS1 => ?_)
  have e1 : H1 = H := ht.symm.trans hB
  subst e1
  have e2 : r = f := hp
  subst e2
  exact kk locs1 hS1
theorem lx_calli {f : Int32} (S : CallFix p m c cc nL s args Ts own) (hM : lx_i l y ws rm As o X f) (cw : vx_CSW R s args own index y bytes maxL ret hh ws rm 1 6 n) (hrec : ∃ cellB : Cell, H[o]? = some cellB ∧ cellB.vm.isStatics = false ∧ s.vm.findClass RX8 = some cellB.cls) (hn : As.length = n) (hsize : ls.size = nL)
    (hW : 2 * (F0 m pc ls st0).monitorRoom + (rest.map fun v => v.category).sum ≤ 8) (hdg : decode cc pc = .ok (.invokestatic index, 3)) (hf : cells + 1 ≤ R.cells ∧ slots + 6 ≤ R.slots) (hS : va_S (xA s) s.heap H locs) (hst : st0 = As.reverse ++ rest) (hK : xK X s) (hN : xNc s)
    (kk : ∀ (H1 : Heap) (locs1 : List Loc), (∀ q : Nat, q < H.size → H1[q]? = H[q]?) → va_S (xA s) s.heap H1 locs1 → W p l e R s m args below meth c H1 locs1 (cells + 1) (slots + 6) Q (F0 m (pc + 3) ls (.int f :: rest))) : W p l e R s m args below meth c H locs cells slots Q (F0 m pc ls st0) := by
  refine va_calli (A1 := fun q => H.size ≤ q) (vx_runSW S (hM H) cw ⟨fun a U g mk q => ⟨q.1, q.2.1, q.2.2.1, xK_blind U g mk a q.2.2.2.1, va_Nc.moved (u := U) (U := U.calling g mk a) (Vm.Alike.refl U.vm) q.2.2.2.2⟩, fun U hU hW => ⟨rfl, hU, rcv_of hW hU hrec, xK_at hK (fun q h => h) hS hW hU, hN.moved hW.alike⟩⟩ rfl hn hsize hst hW hdg hf) hS (fun q h1 h2 => absurd h1 (Nat.not_lt.mpr h2)) (fun q h => Nat.le_trans hS.1 h) (fun r u t H1 locs1 ht hvm hp hB hz hk hS1 => ?_)
  have e2 : r = f := hp
  subst e2
  exact kk H1 locs1 (fun q h => hk q h (Nat.not_le.mpr h)) hS1
theorem lx_calll {f : Int64} (S : CallFix p m c cc nL s args Ts own) (hM : lx_l l y ws rm As o X f) (cw : vx_CSW R s args own index y bytes maxL ret hh ws rm 1 6 n) (hrec : ∃ cellB : Cell, H[o]? = some cellB ∧ cellB.vm.isStatics = false ∧ s.vm.findClass RX8 = some cellB.cls) (hn : As.length = n) (hsize : ls.size = nL)
    (hW : 2 * (F0 m pc ls st0).monitorRoom + (rest.map fun v => v.category).sum ≤ 8) (hdg : decode cc pc = .ok (.invokestatic index, 3)) (hf : cells + 1 ≤ R.cells ∧ slots + 6 ≤ R.slots) (hS : va_S (xA s) s.heap H locs) (hst : st0 = As.reverse ++ rest) (hK : xK X s) (hN : xNc s)
    (kk : ∀ (H1 : Heap) (locs1 : List Loc), (∀ q : Nat, q < H.size → H1[q]? = H[q]?) → va_S (xA s) s.heap H1 locs1 → W p l e R s m args below meth c H1 locs1 (cells + 1) (slots + 6) Q (F0 m (pc + 3) ls (.long f :: rest))) : W p l e R s m args below meth c H locs cells slots Q (F0 m pc ls st0) := by
  refine va_calll (A1 := fun q => H.size ≤ q) (vx_runSW S (hM H) cw ⟨fun a U g mk q => ⟨q.1, q.2.1, q.2.2.1, xK_blind U g mk a q.2.2.2.1, va_Nc.moved (u := U) (U := U.calling g mk a) (Vm.Alike.refl U.vm) q.2.2.2.2⟩, fun U hU hW => ⟨rfl, hU, rcv_of hW hU hrec, xK_at hK (fun q h => h) hS hW hU, hN.moved hW.alike⟩⟩ rfl hn hsize hst hW hdg hf) hS (fun q h1 h2 => absurd h1 (Nat.not_lt.mpr h2)) (fun q h => Nat.le_trans hS.1 h) (fun r u t H1 locs1 ht hvm hp hB hz hk hS1 => ?_)
  have e2 : r = f := hp
  subst e2
  exact kk H1 locs1 (fun q h => hk q h (Nat.not_le.mpr h)) hS1
end LX
set_option maxHeartbeats 4000000 in
set_option maxRecDepth 100000 in
theorem c_L_word (l : Launch) (o : Nat) (v : Int32) (h1 : ¬ v.toInt64 < 0) (h2 : ¬ 65535 < v.toInt64) : lo_l l yL_word wsL_word ({ frames := 5, cells := 0, slots := 0, locals := 120 } : Room) [.ref o, .int v] o (fOf v) := by
  intro H0
  refine va_MetW (cc := cL_word) (maxL := 3) (ret := (some .long)) (hh := [(0, 5, 6, 15)]) (by decide) rfl ?_
  intro p e s m args below meth c s₁ B hml hv
  obtain ⟨rfl, rfl, hrec⟩ := hv
  have hx := B.exec
  have hb := B.bytes
  have hr := B.returns
  have hts := atoms_spec (ws := wsL_word) B.pre
  have hown : s.vm.findClass RL = some m.cls := findClass_of_methodNamed B.named
  have hlocks := B.notSynchronized
  have hS : va_S (xA s) s.heap s.heap [] := va_S.rf
  have hA : ∀ q : Nat, s.heap.size ≤ q → xA s q := fun _ h => h
  have hl := lv_entry ([.ref o, .int v]) (n := 3) (Nat.le_of_ble_eq_true rfl)
  rw [lg_entry_eq]
  generalize (lg_sl ([.ref o, .int v]) ++ List.replicate (3 - (lg_sl ([.ref o, .int v])).length) Slot.unset).toArray = ls at hl ⊢
  have hl : lv_has ls 3 [(0, .ref o), (1, .int v)] := hl
  refine lv_aload_n hx hb dL_word_0 rfl (lv_at hl 0 rfl) ?_
  refine lv_iload_n hx hb dL_word_1 rfl (lv_at hl 1 rfl) ?_
  refine pu_callVl (As := [.int v]) (rest := []) ⟨hx, hb, hml, hown, hts⟩ (c_X8_word l o v h1 h2) (cwV 1 hts gL_word_X8_word rfl rfl rfl (by decide +kernel) ⟨(Nat.le_of_ble_eq_true rfl), (Nat.le_of_ble_eq_true rfl)⟩) hrec rfl hl.1 (lv_room (Nat.le_of_ble_eq_true rfl)) dL_word_2 ⟨Nat.zero_le _, Nat.zero_le _⟩ hS hA rfl (fun locs hS => ?_)
  exact W.lret (v := fOf v) hx hb hr (fun t ht hW => ⟨⟨fOf v, (), rfl, rfl, ht⟩, hS.F ht⟩) hS.2.2 dL_word_5
set_option maxHeartbeats 4000000 in
set_option maxRecDepth 100000 in
theorem x_L_word (l : Launch) (hstk : l.stackTraces = false) (o : Nat) (v : Int32) (h : v.toInt64 < 0 ∨ 65535 < v.toInt64) : lx_l l yL_word wsL_word ({ frames := 8, cells := 1, slots := 6, locals := 127 } : Room) [.ref o, .int v] o "java/lang/IllegalArgumentException" (-900001) := by
  intro H0
  refine va_MetW (cc := cL_word) (maxL := 3) (ret := (some .long)) (hh := [(0, 5, 6, 15)]) (by decide) rfl ?_
  intro p e s m args below meth c s₁ B hml hv
  obtain ⟨rfl, rfl, hrec, hX, hNc⟩ := hv
  have hx := B.exec
  have hb := B.bytes
  have hr := B.returns
  have hts := atoms_spec (ws := wsL_word) B.pre
  have hown : s.vm.findClass RL = some m.cls := findClass_of_methodNamed B.named
  have hlocks := B.notSynchronized
  have hS : va_S (xA s) s.heap s.heap [] := va_S.rf
  have hA : ∀ q : Nat, s.heap.size ≤ q → xA s q := fun _ h => h
  have hl := lv_entry ([.ref o, .int v]) (n := 3) (Nat.le_of_ble_eq_true rfl)
  rw [lg_entry_eq]
  generalize (lg_sl ([.ref o, .int v]) ++ List.replicate (3 - (lg_sl ([.ref o, .int v])).length) Slot.unset).toArray = ls at hl ⊢
  have hl : lv_has ls 3 [(0, .ref o), (1, .int v)] := hl
  have htab : c.exceptionTable.toList = _ := vx_table (x := yL_word) B (hts _ List.mem_cons_self)
  refine lv_aload_n hx hb dL_word_0 rfl (lv_at hl 0 rfl) ?_
  refine lv_iload_n hx hb dL_word_1 rfl (lv_at hl 1 rfl) ?_
  refine lx_catchl (As := [.int v]) (rest := []) ⟨hx, hb, hml, hown, hts⟩ (x_X8_word l hstk o v h) (cwV 1 hts gL_word_X8_word rfl rfl rfl (by decide +kernel) ⟨(Nat.le_of_ble_eq_true rfl), (Nat.le_of_ble_eq_true rfl)⟩) hrec rfl hl.1 (lv_room (Nat.le_of_ble_eq_true rfl)) dL_word_2 ⟨(Nat.le_of_ble_eq_true rfl), (Nat.le_of_ble_eq_true rfl)⟩ hS rfl hX [] ⟨0, 5, 6, 15⟩ [] htab (fun z hz => absurd hz List.not_mem_nil) (by decide) (by decide) (hts (.classLink RL 15 "java/lang/IllegalArgumentException") (by decide +kernel)) (fun q9 H locs hS => ?_)
  refine W.eq (g2 := F0 m 6 ls [.ref q9]) rfl ?_
  refine lv_astore_n (lv' := [(2, .ref q9), (0, .ref o), (1, .int v)]) hx hb dL_word_6 rfl hl (by decide) rfl (fun ls hl => ?_)
  refine lv_ldc2 (v := (-900001)) hx hb hown (hts (.constantLong RL 17 (-900001)) (by decide +kernel)) dL_word_7 ?_
  exact W.lret (v := (-900001)) hx hb hr (fun t ht hW => ⟨⟨(-900001), (), rfl, rfl, trivial⟩, hS.F ht⟩) hS.2.2 dL_word_10
set_option maxHeartbeats 4000000 in
set_option maxRecDepth 100000 in
theorem c_L_mend (l : Launch) (o : Nat) (w : Int64) (k : Int32) (h1 : ¬ w < 0) (h2 : ¬ 4294967295 < w) (h3 : ¬ k.toInt64 < 0) (h4 : ¬ 255 < k.toInt64) (hne : ¬ fRep w k = -1) : lo_i l yL_mend wsL_mend ({ frames := 6, cells := 0, slots := 0, locals := 152 } : Room) [.ref o, .long w, .int k] o (fVal (fRep w k)) := by
  intro H0
  refine va_MetW (cc := cL_mend) (maxL := 5) (ret := (some .int)) (hh := [(0, 6, 7, 15), (0, 6, 12, 24)]) (by decide) rfl ?_
  intro p e s m args below meth c s₁ B hml hv
  obtain ⟨rfl, rfl, hrec⟩ := hv
  have hx := B.exec
  have hb := B.bytes
  have hr := B.returns
  have hts := atoms_spec (ws := wsL_mend) B.pre
  have hown : s.vm.findClass RL = some m.cls := findClass_of_methodNamed B.named
  have hlocks := B.notSynchronized
  have hS : va_S (xA s) s.heap s.heap [] := va_S.rf
  have hA : ∀ q : Nat, s.heap.size ≤ q → xA s q := fun _ h => h
  have hl := lv_entry ([.ref o, .long w, .int k]) (n := 5) (Nat.le_of_ble_eq_true rfl)
  rw [lg_entry_eq]
  generalize (lg_sl ([.ref o, .long w, .int k]) ++ List.replicate (5 - (lg_sl ([.ref o, .long w, .int k])).length) Slot.unset).toArray = ls at hl ⊢
  have hl : lv_has ls 5 [(0, .ref o), (1, .long w), (3, .int k)] := hl
  refine lv_aload_n hx hb dL_mend_0 rfl (lv_at hl 0 rfl) ?_
  refine lv_lload_n hx hb dL_mend_1 rfl (lv_at hl 1 rfl) ?_
  refine lv_iload_n hx hb dL_mend_2 rfl (lv_at hl 2 rfl) ?_
  refine pu_callVi (As := [.long w, .int k]) (rest := []) ⟨hx, hb, hml, hown, hts⟩ (c_X8_mend l o w k h1 h2 h3 h4 hne) (cwV 2 hts gL_mend_X8_mend rfl rfl rfl (by decide +kernel) ⟨(Nat.le_of_ble_eq_true rfl), (Nat.le_of_ble_eq_true rfl)⟩) hrec rfl hl.1 (lv_room (Nat.le_of_ble_eq_true rfl)) dL_mend_3 ⟨Nat.zero_le _, Nat.zero_le _⟩ hS hA rfl (fun locs hS => ?_)
  exact W.iret (v := fVal (fRep w k)) hx hb hr (fun t ht hW => ⟨⟨fVal (fRep w k), (), rfl, rfl, ht⟩, hS.F ht⟩) hS.2.2 dL_mend_6
set_option maxHeartbeats 4000000 in
set_option maxRecDepth 100000 in
theorem x_L_mend_1 (l : Launch) (hstk : l.stackTraces = false) (o : Nat) (w : Int64) (k : Int32) (h : w < 0 ∨ 4294967295 < w) : lx_i l yL_mend wsL_mend ({ frames := 9, cells := 1, slots := 6, locals := 153 } : Room) [.ref o, .long w, .int k] o "java/lang/IllegalArgumentException" (-900001) := by
  intro H0
  refine va_MetW (cc := cL_mend) (maxL := 5) (ret := (some .int)) (hh := [(0, 6, 7, 15), (0, 6, 12, 24)]) (by decide) rfl ?_
  intro p e s m args below meth c s₁ B hml hv
  obtain ⟨rfl, rfl, hrec, hX, hNc⟩ := hv
  have hx := B.exec
  have hb := B.bytes
  have hr := B.returns
  have hts := atoms_spec (ws := wsL_mend) B.pre
  have hown : s.vm.findClass RL = some m.cls := findClass_of_methodNamed B.named
  have hlocks := B.notSynchronized
  have hS : va_S (xA s) s.heap s.heap [] := va_S.rf
  have hA : ∀ q : Nat, s.heap.size ≤ q → xA s q := fun _ h => h
  have hl := lv_entry ([.ref o, .long w, .int k]) (n := 5) (Nat.le_of_ble_eq_true rfl)
  rw [lg_entry_eq]
  generalize (lg_sl ([.ref o, .long w, .int k]) ++ List.replicate (5 - (lg_sl ([.ref o, .long w, .int k])).length) Slot.unset).toArray = ls at hl ⊢
  have hl : lv_has ls 5 [(0, .ref o), (1, .long w), (3, .int k)] := hl
  have htab : c.exceptionTable.toList = _ := vx_table (x := yL_mend) B (hts _ List.mem_cons_self)
  refine lv_aload_n hx hb dL_mend_0 rfl (lv_at hl 0 rfl) ?_
  refine lv_lload_n hx hb dL_mend_1 rfl (lv_at hl 1 rfl) ?_
  refine lv_iload_n hx hb dL_mend_2 rfl (lv_at hl 2 rfl) ?_
  refine lx_catchi (As := [.long w, .int k]) (rest := []) ⟨hx, hb, hml, hown, hts⟩ (x_X8_mend l hstk o w k _ (x_X8_repairedOrThrow_1 l hstk w k h)) (cwV 2 hts gL_mend_X8_mend rfl rfl rfl (by decide +kernel) ⟨(Nat.le_of_ble_eq_true rfl), (Nat.le_of_ble_eq_true rfl)⟩) hrec rfl hl.1 (lv_room (Nat.le_of_ble_eq_true rfl)) dL_mend_3 ⟨(Nat.le_of_ble_eq_true rfl), (Nat.le_of_ble_eq_true rfl)⟩ hS rfl hX [] ⟨0, 6, 7, 15⟩ [⟨0, 6, 12, 24⟩] htab (fun z hz => absurd hz List.not_mem_nil) (by decide) (by decide) (hts (.classLink RL 15 "java/lang/IllegalArgumentException") (by decide +kernel)) (fun q9 H locs hS => ?_)
  refine W.eq (g2 := F0 m 7 ls [.ref q9]) rfl ?_
  refine lv_astore (lv' := [(4, .ref q9), (0, .ref o), (1, .long w), (3, .int k)]) hx hb dL_mend_7 hl (by decide) rfl (fun ls hl => ?_)
  refine lv_ldc (v := (-900001)) hx hb hown (hts (.constant RL 23 (-900001)) (by decide +kernel)) dL_mend_9 ?_
  exact W.iret (v := (-900001)) hx hb hr (fun t ht hW => ⟨⟨(-900001), (), rfl, rfl, trivial⟩, hS.F ht⟩) hS.2.2 dL_mend_11
set_option maxHeartbeats 4000000 in
set_option maxRecDepth 100000 in
theorem x_L_mend_2 (l : Launch) (hstk : l.stackTraces = false) (o : Nat) (w : Int64) (k : Int32) (h1 : ¬ w < 0) (h2 : ¬ 4294967295 < w) (h : k.toInt64 < 0 ∨ 255 < k.toInt64) : lx_i l yL_mend wsL_mend ({ frames := 9, cells := 1, slots := 6, locals := 153 } : Room) [.ref o, .long w, .int k] o "java/lang/IllegalArgumentException" (-900001) := by
  intro H0
  refine va_MetW (cc := cL_mend) (maxL := 5) (ret := (some .int)) (hh := [(0, 6, 7, 15), (0, 6, 12, 24)]) (by decide) rfl ?_
  intro p e s m args below meth c s₁ B hml hv
  obtain ⟨rfl, rfl, hrec, hX, hNc⟩ := hv
  have hx := B.exec
  have hb := B.bytes
  have hr := B.returns
  have hts := atoms_spec (ws := wsL_mend) B.pre
  have hown : s.vm.findClass RL = some m.cls := findClass_of_methodNamed B.named
  have hlocks := B.notSynchronized
  have hS : va_S (xA s) s.heap s.heap [] := va_S.rf
  have hA : ∀ q : Nat, s.heap.size ≤ q → xA s q := fun _ h => h
  have hl := lv_entry ([.ref o, .long w, .int k]) (n := 5) (Nat.le_of_ble_eq_true rfl)
  rw [lg_entry_eq]
  generalize (lg_sl ([.ref o, .long w, .int k]) ++ List.replicate (5 - (lg_sl ([.ref o, .long w, .int k])).length) Slot.unset).toArray = ls at hl ⊢
  have hl : lv_has ls 5 [(0, .ref o), (1, .long w), (3, .int k)] := hl
  have htab : c.exceptionTable.toList = _ := vx_table (x := yL_mend) B (hts _ List.mem_cons_self)
  refine lv_aload_n hx hb dL_mend_0 rfl (lv_at hl 0 rfl) ?_
  refine lv_lload_n hx hb dL_mend_1 rfl (lv_at hl 1 rfl) ?_
  refine lv_iload_n hx hb dL_mend_2 rfl (lv_at hl 2 rfl) ?_
  refine lx_catchi (As := [.long w, .int k]) (rest := []) ⟨hx, hb, hml, hown, hts⟩ (x_X8_mend l hstk o w k _ (x_X8_repairedOrThrow_2 l hstk w k h1 h2 h)) (cwV 2 hts gL_mend_X8_mend rfl rfl rfl (by decide +kernel) ⟨(Nat.le_of_ble_eq_true rfl), (Nat.le_of_ble_eq_true rfl)⟩) hrec rfl hl.1 (lv_room (Nat.le_of_ble_eq_true rfl)) dL_mend_3 ⟨(Nat.le_of_ble_eq_true rfl), (Nat.le_of_ble_eq_true rfl)⟩ hS rfl hX [] ⟨0, 6, 7, 15⟩ [⟨0, 6, 12, 24⟩] htab (fun z hz => absurd hz List.not_mem_nil) (by decide) (by decide) (hts (.classLink RL 15 "java/lang/IllegalArgumentException") (by decide +kernel)) (fun q9 H locs hS => ?_)
  refine W.eq (g2 := F0 m 7 ls [.ref q9]) rfl ?_
  refine lv_astore (lv' := [(4, .ref q9), (0, .ref o), (1, .long w), (3, .int k)]) hx hb dL_mend_7 hl (by decide) rfl (fun ls hl => ?_)
  refine lv_ldc (v := (-900001)) hx hb hown (hts (.constant RL 23 (-900001)) (by decide +kernel)) dL_mend_9 ?_
  exact W.iret (v := (-900001)) hx hb hr (fun t ht hW => ⟨⟨(-900001), (), rfl, rfl, trivial⟩, hS.F ht⟩) hS.2.2 dL_mend_11
set_option maxHeartbeats 4000000 in
set_option maxRecDepth 100000 in
theorem x_L_mend_3 (l : Launch) (hstk : l.stackTraces = false) (o : Nat) (w : Int64) (k : Int32) (h1 : ¬ w < 0) (h2 : ¬ 4294967295 < w) (h3 : ¬ k.toInt64 < 0) (h4 : ¬ 255 < k.toInt64) (he : fRep w k = -1) : lx_i l yL_mend wsL_mend ({ frames := 9, cells := 1, slots := 6, locals := 153 } : Room) [.ref o, .long w, .int k] o "java/util/NoSuchElementException" (-900002) := by
  intro H0
  refine va_MetW (cc := cL_mend) (maxL := 5) (ret := (some .int)) (hh := [(0, 6, 7, 15), (0, 6, 12, 24)]) (by decide) rfl ?_
  intro p e s m args below meth c s₁ B hml hv
  obtain ⟨rfl, rfl, hrec, hX, hNc⟩ := hv
  have hx := B.exec
  have hb := B.bytes
  have hr := B.returns
  have hts := atoms_spec (ws := wsL_mend) B.pre
  have hown : s.vm.findClass RL = some m.cls := findClass_of_methodNamed B.named
  have hlocks := B.notSynchronized
  have hS : va_S (xA s) s.heap s.heap [] := va_S.rf
  have hA : ∀ q : Nat, s.heap.size ≤ q → xA s q := fun _ h => h
  have hl := lv_entry ([.ref o, .long w, .int k]) (n := 5) (Nat.le_of_ble_eq_true rfl)
  rw [lg_entry_eq]
  generalize (lg_sl ([.ref o, .long w, .int k]) ++ List.replicate (5 - (lg_sl ([.ref o, .long w, .int k])).length) Slot.unset).toArray = ls at hl ⊢
  have hl : lv_has ls 5 [(0, .ref o), (1, .long w), (3, .int k)] := hl
  have htab : c.exceptionTable.toList = _ := vx_table (x := yL_mend) B (hts _ List.mem_cons_self)
  refine lv_aload_n hx hb dL_mend_0 rfl (lv_at hl 0 rfl) ?_
  refine lv_lload_n hx hb dL_mend_1 rfl (lv_at hl 1 rfl) ?_
  refine lv_iload_n hx hb dL_mend_2 rfl (lv_at hl 2 rfl) ?_
  refine lx_catchi (As := [.long w, .int k]) (rest := []) ⟨hx, hb, hml, hown, hts⟩ (x_X8_mend l hstk o w k _ (x_X8_repairedOrThrow_3 l hstk w k h1 h2 h3 h4 he)) (cwV 2 hts gL_mend_X8_mend rfl rfl rfl (by decide +kernel) ⟨(Nat.le_of_ble_eq_true rfl), (Nat.le_of_ble_eq_true rfl)⟩) hrec rfl hl.1 (lv_room (Nat.le_of_ble_eq_true rfl)) dL_mend_3 ⟨(Nat.le_of_ble_eq_true rfl), (Nat.le_of_ble_eq_true rfl)⟩ hS rfl hX [⟨0, 6, 7, 15⟩] ⟨0, 6, 12, 24⟩ [] htab (fun z hz => by rcases List.mem_singleton.mp hz with rfl; exact Or.inr ⟨by decide, "java/lang/IllegalArgumentException", hts (.classLink RL 15 "java/lang/IllegalArgumentException") (by decide +kernel), hNc⟩) (by decide) (by decide) (hts (.classLink RL 24 "java/util/NoSuchElementException") (by decide +kernel)) (fun q9 H locs hS => ?_)
  refine W.eq (g2 := F0 m 12 ls [.ref q9]) rfl ?_
  refine lv_astore (lv' := [(4, .ref q9), (0, .ref o), (1, .long w), (3, .int k)]) hx hb dL_mend_12 hl (by decide) rfl (fun ls hl => ?_)
  refine lv_ldc (v := (-900002)) hx hb hown (hts (.constant RL 26 (-900002)) (by decide +kernel)) dL_mend_14 ?_
  exact W.iret (v := (-900002)) hx hb hr (fun t ht hW => ⟨⟨(-900002), (), rfl, rfl, trivial⟩, hS.F ht⟩) hS.2.2 dL_mend_16
set_option maxHeartbeats 4000000 in
set_option maxRecDepth 100000 in
theorem c_L_mended (l : Launch) (o : Nat) (w : Int64) (k : Int32) (h1 : ¬ w < 0) (h2 : ¬ 4294967295 < w) (h3 : ¬ k.toInt64 < 0) (h4 : ¬ 255 < k.toInt64) (hne : ¬ fRep w k = -1) : lo_i l yL_mended wsL_mended ({ frames := 6, cells := 0, slots := 0, locals := 152 } : Room) [.ref o, .long w, .int k] o (fDiff w (fRep w k)) := by
  intro H0
  refine va_MetW (cc := cL_mended) (maxL := 5) (ret := (some .int)) (hh := [(0, 6, 7, 15), (0, 6, 12, 24)]) (by decide) rfl ?_
  intro p e s m args below meth c s₁ B hml hv
  obtain ⟨rfl, rfl, hrec⟩ := hv
  have hx := B.exec
  have hb := B.bytes
  have hr := B.returns
  have hts := atoms_spec (ws := wsL_mended) B.pre
  have hown : s.vm.findClass RL = some m.cls := findClass_of_methodNamed B.named
  have hlocks := B.notSynchronized
  have hS : va_S (xA s) s.heap s.heap [] := va_S.rf
  have hA : ∀ q : Nat, s.heap.size ≤ q → xA s q := fun _ h => h
  have hl := lv_entry ([.ref o, .long w, .int k]) (n := 5) (Nat.le_of_ble_eq_true rfl)
  rw [lg_entry_eq]
  generalize (lg_sl ([.ref o, .long w, .int k]) ++ List.replicate (5 - (lg_sl ([.ref o, .long w, .int k])).length) Slot.unset).toArray = ls at hl ⊢
  have hl : lv_has ls 5 [(0, .ref o), (1, .long w), (3, .int k)] := hl
  refine lv_aload_n hx hb dL_mended_0 rfl (lv_at hl 0 rfl) ?_
  refine lv_lload_n hx hb dL_mended_1 rfl (lv_at hl 1 rfl) ?_
  refine lv_iload_n hx hb dL_mended_2 rfl (lv_at hl 2 rfl) ?_
  refine pu_callVi (As := [.long w, .int k]) (rest := []) ⟨hx, hb, hml, hown, hts⟩ (c_X8_mended l o w k h1 h2 h3 h4 hne) (cwV 2 hts gL_mended_X8_mended rfl rfl rfl (by decide +kernel) ⟨(Nat.le_of_ble_eq_true rfl), (Nat.le_of_ble_eq_true rfl)⟩) hrec rfl hl.1 (lv_room (Nat.le_of_ble_eq_true rfl)) dL_mended_3 ⟨Nat.zero_le _, Nat.zero_le _⟩ hS hA rfl (fun locs hS => ?_)
  exact W.iret (v := fDiff w (fRep w k)) hx hb hr (fun t ht hW => ⟨⟨fDiff w (fRep w k), (), rfl, rfl, ht⟩, hS.F ht⟩) hS.2.2 dL_mended_6
set_option maxHeartbeats 4000000 in
set_option maxRecDepth 100000 in
theorem x_L_mended_1 (l : Launch) (hstk : l.stackTraces = false) (o : Nat) (w : Int64) (k : Int32) (h : w < 0 ∨ 4294967295 < w) : lx_i l yL_mended wsL_mended ({ frames := 9, cells := 1, slots := 6, locals := 153 } : Room) [.ref o, .long w, .int k] o "java/lang/IllegalArgumentException" (-900001) := by
  intro H0
  refine va_MetW (cc := cL_mended) (maxL := 5) (ret := (some .int)) (hh := [(0, 6, 7, 15), (0, 6, 12, 24)]) (by decide) rfl ?_
  intro p e s m args below meth c s₁ B hml hv
  obtain ⟨rfl, rfl, hrec, hX, hNc⟩ := hv
  have hx := B.exec
  have hb := B.bytes
  have hr := B.returns
  have hts := atoms_spec (ws := wsL_mended) B.pre
  have hown : s.vm.findClass RL = some m.cls := findClass_of_methodNamed B.named
  have hlocks := B.notSynchronized
  have hS : va_S (xA s) s.heap s.heap [] := va_S.rf
  have hA : ∀ q : Nat, s.heap.size ≤ q → xA s q := fun _ h => h
  have hl := lv_entry ([.ref o, .long w, .int k]) (n := 5) (Nat.le_of_ble_eq_true rfl)
  rw [lg_entry_eq]
  generalize (lg_sl ([.ref o, .long w, .int k]) ++ List.replicate (5 - (lg_sl ([.ref o, .long w, .int k])).length) Slot.unset).toArray = ls at hl ⊢
  have hl : lv_has ls 5 [(0, .ref o), (1, .long w), (3, .int k)] := hl
  have htab : c.exceptionTable.toList = _ := vx_table (x := yL_mended) B (hts _ List.mem_cons_self)
  refine lv_aload_n hx hb dL_mended_0 rfl (lv_at hl 0 rfl) ?_
  refine lv_lload_n hx hb dL_mended_1 rfl (lv_at hl 1 rfl) ?_
  refine lv_iload_n hx hb dL_mended_2 rfl (lv_at hl 2 rfl) ?_
  refine lx_catchi (As := [.long w, .int k]) (rest := []) ⟨hx, hb, hml, hown, hts⟩ (x_X8_mended l hstk o w k _ (x_X8_repairedOrThrow_1 l hstk w k h)) (cwV 2 hts gL_mended_X8_mended rfl rfl rfl (by decide +kernel) ⟨(Nat.le_of_ble_eq_true rfl), (Nat.le_of_ble_eq_true rfl)⟩) hrec rfl hl.1 (lv_room (Nat.le_of_ble_eq_true rfl)) dL_mended_3 ⟨(Nat.le_of_ble_eq_true rfl), (Nat.le_of_ble_eq_true rfl)⟩ hS rfl hX [] ⟨0, 6, 7, 15⟩ [⟨0, 6, 12, 24⟩] htab (fun z hz => absurd hz List.not_mem_nil) (by decide) (by decide) (hts (.classLink RL 15 "java/lang/IllegalArgumentException") (by decide +kernel)) (fun q9 H locs hS => ?_)
  refine W.eq (g2 := F0 m 7 ls [.ref q9]) rfl ?_
  refine lv_astore (lv' := [(4, .ref q9), (0, .ref o), (1, .long w), (3, .int k)]) hx hb dL_mended_7 hl (by decide) rfl (fun ls hl => ?_)
  refine lv_ldc (v := (-900001)) hx hb hown (hts (.constant RL 23 (-900001)) (by decide +kernel)) dL_mended_9 ?_
  exact W.iret (v := (-900001)) hx hb hr (fun t ht hW => ⟨⟨(-900001), (), rfl, rfl, trivial⟩, hS.F ht⟩) hS.2.2 dL_mended_11
set_option maxHeartbeats 4000000 in
set_option maxRecDepth 100000 in
theorem x_L_mended_2 (l : Launch) (hstk : l.stackTraces = false) (o : Nat) (w : Int64) (k : Int32) (h1 : ¬ w < 0) (h2 : ¬ 4294967295 < w) (h : k.toInt64 < 0 ∨ 255 < k.toInt64) : lx_i l yL_mended wsL_mended ({ frames := 9, cells := 1, slots := 6, locals := 153 } : Room) [.ref o, .long w, .int k] o "java/lang/IllegalArgumentException" (-900001) := by
  intro H0
  refine va_MetW (cc := cL_mended) (maxL := 5) (ret := (some .int)) (hh := [(0, 6, 7, 15), (0, 6, 12, 24)]) (by decide) rfl ?_
  intro p e s m args below meth c s₁ B hml hv
  obtain ⟨rfl, rfl, hrec, hX, hNc⟩ := hv
  have hx := B.exec
  have hb := B.bytes
  have hr := B.returns
  have hts := atoms_spec (ws := wsL_mended) B.pre
  have hown : s.vm.findClass RL = some m.cls := findClass_of_methodNamed B.named
  have hlocks := B.notSynchronized
  have hS : va_S (xA s) s.heap s.heap [] := va_S.rf
  have hA : ∀ q : Nat, s.heap.size ≤ q → xA s q := fun _ h => h
  have hl := lv_entry ([.ref o, .long w, .int k]) (n := 5) (Nat.le_of_ble_eq_true rfl)
  rw [lg_entry_eq]
  generalize (lg_sl ([.ref o, .long w, .int k]) ++ List.replicate (5 - (lg_sl ([.ref o, .long w, .int k])).length) Slot.unset).toArray = ls at hl ⊢
  have hl : lv_has ls 5 [(0, .ref o), (1, .long w), (3, .int k)] := hl
  have htab : c.exceptionTable.toList = _ := vx_table (x := yL_mended) B (hts _ List.mem_cons_self)
  refine lv_aload_n hx hb dL_mended_0 rfl (lv_at hl 0 rfl) ?_
  refine lv_lload_n hx hb dL_mended_1 rfl (lv_at hl 1 rfl) ?_
  refine lv_iload_n hx hb dL_mended_2 rfl (lv_at hl 2 rfl) ?_
  refine lx_catchi (As := [.long w, .int k]) (rest := []) ⟨hx, hb, hml, hown, hts⟩ (x_X8_mended l hstk o w k _ (x_X8_repairedOrThrow_2 l hstk w k h1 h2 h)) (cwV 2 hts gL_mended_X8_mended rfl rfl rfl (by decide +kernel) ⟨(Nat.le_of_ble_eq_true rfl), (Nat.le_of_ble_eq_true rfl)⟩) hrec rfl hl.1 (lv_room (Nat.le_of_ble_eq_true rfl)) dL_mended_3 ⟨(Nat.le_of_ble_eq_true rfl), (Nat.le_of_ble_eq_true rfl)⟩ hS rfl hX [] ⟨0, 6, 7, 15⟩ [⟨0, 6, 12, 24⟩] htab (fun z hz => absurd hz List.not_mem_nil) (by decide) (by decide) (hts (.classLink RL 15 "java/lang/IllegalArgumentException") (by decide +kernel)) (fun q9 H locs hS => ?_)
  refine W.eq (g2 := F0 m 7 ls [.ref q9]) rfl ?_
  refine lv_astore (lv' := [(4, .ref q9), (0, .ref o), (1, .long w), (3, .int k)]) hx hb dL_mended_7 hl (by decide) rfl (fun ls hl => ?_)
  refine lv_ldc (v := (-900001)) hx hb hown (hts (.constant RL 23 (-900001)) (by decide +kernel)) dL_mended_9 ?_
  exact W.iret (v := (-900001)) hx hb hr (fun t ht hW => ⟨⟨(-900001), (), rfl, rfl, trivial⟩, hS.F ht⟩) hS.2.2 dL_mended_11
set_option maxHeartbeats 4000000 in
set_option maxRecDepth 100000 in
theorem x_L_mended_3 (l : Launch) (hstk : l.stackTraces = false) (o : Nat) (w : Int64) (k : Int32) (h1 : ¬ w < 0) (h2 : ¬ 4294967295 < w) (h3 : ¬ k.toInt64 < 0) (h4 : ¬ 255 < k.toInt64) (he : fRep w k = -1) : lx_i l yL_mended wsL_mended ({ frames := 9, cells := 1, slots := 6, locals := 153 } : Room) [.ref o, .long w, .int k] o "java/util/NoSuchElementException" (-900002) := by
  intro H0
  refine va_MetW (cc := cL_mended) (maxL := 5) (ret := (some .int)) (hh := [(0, 6, 7, 15), (0, 6, 12, 24)]) (by decide) rfl ?_
  intro p e s m args below meth c s₁ B hml hv
  obtain ⟨rfl, rfl, hrec, hX, hNc⟩ := hv
  have hx := B.exec
  have hb := B.bytes
  have hr := B.returns
  have hts := atoms_spec (ws := wsL_mended) B.pre
  have hown : s.vm.findClass RL = some m.cls := findClass_of_methodNamed B.named
  have hlocks := B.notSynchronized
  have hS : va_S (xA s) s.heap s.heap [] := va_S.rf
  have hA : ∀ q : Nat, s.heap.size ≤ q → xA s q := fun _ h => h
  have hl := lv_entry ([.ref o, .long w, .int k]) (n := 5) (Nat.le_of_ble_eq_true rfl)
  rw [lg_entry_eq]
  generalize (lg_sl ([.ref o, .long w, .int k]) ++ List.replicate (5 - (lg_sl ([.ref o, .long w, .int k])).length) Slot.unset).toArray = ls at hl ⊢
  have hl : lv_has ls 5 [(0, .ref o), (1, .long w), (3, .int k)] := hl
  have htab : c.exceptionTable.toList = _ := vx_table (x := yL_mended) B (hts _ List.mem_cons_self)
  refine lv_aload_n hx hb dL_mended_0 rfl (lv_at hl 0 rfl) ?_
  refine lv_lload_n hx hb dL_mended_1 rfl (lv_at hl 1 rfl) ?_
  refine lv_iload_n hx hb dL_mended_2 rfl (lv_at hl 2 rfl) ?_
  refine lx_catchi (As := [.long w, .int k]) (rest := []) ⟨hx, hb, hml, hown, hts⟩ (x_X8_mended l hstk o w k _ (x_X8_repairedOrThrow_3 l hstk w k h1 h2 h3 h4 he)) (cwV 2 hts gL_mended_X8_mended rfl rfl rfl (by decide +kernel) ⟨(Nat.le_of_ble_eq_true rfl), (Nat.le_of_ble_eq_true rfl)⟩) hrec rfl hl.1 (lv_room (Nat.le_of_ble_eq_true rfl)) dL_mended_3 ⟨(Nat.le_of_ble_eq_true rfl), (Nat.le_of_ble_eq_true rfl)⟩ hS rfl hX [⟨0, 6, 7, 15⟩] ⟨0, 6, 12, 24⟩ [] htab (fun z hz => by rcases List.mem_singleton.mp hz with rfl; exact Or.inr ⟨by decide, "java/lang/IllegalArgumentException", hts (.classLink RL 15 "java/lang/IllegalArgumentException") (by decide +kernel), hNc⟩) (by decide) (by decide) (hts (.classLink RL 24 "java/util/NoSuchElementException") (by decide +kernel)) (fun q9 H locs hS => ?_)
  refine W.eq (g2 := F0 m 12 ls [.ref q9]) rfl ?_
  refine lv_astore (lv' := [(4, .ref q9), (0, .ref o), (1, .long w), (3, .int k)]) hx hb dL_mended_12 hl (by decide) rfl (fun ls hl => ?_)
  refine lv_ldc (v := (-900002)) hx hb hown (hts (.constant RL 26 (-900002)) (by decide +kernel)) dL_mended_14 ?_
  exact W.iret (v := (-900002)) hx hb hr (fun t ht hW => ⟨⟨(-900002), (), rfl, rfl, trivial⟩, hS.F ht⟩) hS.2.2 dL_mended_16
set_option maxHeartbeats 4000000 in
set_option maxRecDepth 100000 in
theorem c_L_encode (l : Launch) (o : Nat) (d b : Int32) (h1 : ¬ d.toInt64 < 0) (h2 : ¬ 255 < d.toInt64) (h3 : ¬ b.toInt64 < 0) (h4 : ¬ 1 < b.toInt64) : lo_i l yL_encode wsL_encode ({ frames := 2, cells := 0, slots := 0, locals := 48 } : Room) [.ref o, .int d, .int b] o (fByte d b) := by
  intro H0
  refine va_MetW (cc := cL_encode) (maxL := 4) (ret := (some .int)) (hh := [(0, 6, 7, 15)]) (by decide) rfl ?_
  intro p e s m args below meth c s₁ B hml hv
  obtain ⟨rfl, rfl, hrec⟩ := hv
  have hx := B.exec
  have hb := B.bytes
  have hr := B.returns
  have hts := atoms_spec (ws := wsL_encode) B.pre
  have hown : s.vm.findClass RL = some m.cls := findClass_of_methodNamed B.named
  have hlocks := B.notSynchronized
  have hS : va_S (xA s) s.heap s.heap [] := va_S.rf
  have hA : ∀ q : Nat, s.heap.size ≤ q → xA s q := fun _ h => h
  have hl := lv_entry ([.ref o, .int d, .int b]) (n := 4) (Nat.le_of_ble_eq_true rfl)
  rw [lg_entry_eq]
  generalize (lg_sl ([.ref o, .int d, .int b]) ++ List.replicate (4 - (lg_sl ([.ref o, .int d, .int b])).length) Slot.unset).toArray = ls at hl ⊢
  have hl : lv_has ls 4 [(0, .ref o), (1, .int d), (2, .int b)] := hl
  refine lv_aload_n hx hb dL_encode_0 rfl (lv_at hl 0 rfl) ?_
  refine lv_iload_n hx hb dL_encode_1 rfl (lv_at hl 1 rfl) ?_
  refine lv_iload_n hx hb dL_encode_2 rfl (lv_at hl 2 rfl) ?_
  refine pu_callVi (As := [.int d, .int b]) (rest := []) ⟨hx, hb, hml, hown, hts⟩ (c_X8_encode l o d b h1 h2 h3 h4) (cwV 2 hts gL_encode_X8_encode rfl rfl rfl (by decide +kernel) ⟨(Nat.le_of_ble_eq_true rfl), (Nat.le_of_ble_eq_true rfl)⟩) hrec rfl hl.1 (lv_room (Nat.le_of_ble_eq_true rfl)) dL_encode_3 ⟨Nat.zero_le _, Nat.zero_le _⟩ hS hA rfl (fun locs hS => ?_)
  exact W.iret (v := fByte d b) hx hb hr (fun t ht hW => ⟨⟨fByte d b, (), rfl, rfl, ht⟩, hS.F ht⟩) hS.2.2 dL_encode_6
set_option maxHeartbeats 4000000 in
set_option maxRecDepth 100000 in
theorem x_L_encode_1 (l : Launch) (hstk : l.stackTraces = false) (o : Nat) (d b : Int32) (h : d.toInt64 < 0 ∨ 255 < d.toInt64) : lx_i l yL_encode wsL_encode ({ frames := 8, cells := 1, slots := 6, locals := 128 } : Room) [.ref o, .int d, .int b] o "java/lang/IllegalArgumentException" (-900001) := by
  intro H0
  refine va_MetW (cc := cL_encode) (maxL := 4) (ret := (some .int)) (hh := [(0, 6, 7, 15)]) (by decide) rfl ?_
  intro p e s m args below meth c s₁ B hml hv
  obtain ⟨rfl, rfl, hrec, hX, hNc⟩ := hv
  have hx := B.exec
  have hb := B.bytes
  have hr := B.returns
  have hts := atoms_spec (ws := wsL_encode) B.pre
  have hown : s.vm.findClass RL = some m.cls := findClass_of_methodNamed B.named
  have hlocks := B.notSynchronized
  have hS : va_S (xA s) s.heap s.heap [] := va_S.rf
  have hA : ∀ q : Nat, s.heap.size ≤ q → xA s q := fun _ h => h
  have hl := lv_entry ([.ref o, .int d, .int b]) (n := 4) (Nat.le_of_ble_eq_true rfl)
  rw [lg_entry_eq]
  generalize (lg_sl ([.ref o, .int d, .int b]) ++ List.replicate (4 - (lg_sl ([.ref o, .int d, .int b])).length) Slot.unset).toArray = ls at hl ⊢
  have hl : lv_has ls 4 [(0, .ref o), (1, .int d), (2, .int b)] := hl
  have htab : c.exceptionTable.toList = _ := vx_table (x := yL_encode) B (hts _ List.mem_cons_self)
  refine lv_aload_n hx hb dL_encode_0 rfl (lv_at hl 0 rfl) ?_
  refine lv_iload_n hx hb dL_encode_1 rfl (lv_at hl 1 rfl) ?_
  refine lv_iload_n hx hb dL_encode_2 rfl (lv_at hl 2 rfl) ?_
  refine lx_catchi (As := [.int d, .int b]) (rest := []) ⟨hx, hb, hml, hown, hts⟩ (x_X8_encode_1 l hstk o d b h) (cwV 2 hts gL_encode_X8_encode rfl rfl rfl (by decide +kernel) ⟨(Nat.le_of_ble_eq_true rfl), (Nat.le_of_ble_eq_true rfl)⟩) hrec rfl hl.1 (lv_room (Nat.le_of_ble_eq_true rfl)) dL_encode_3 ⟨(Nat.le_of_ble_eq_true rfl), (Nat.le_of_ble_eq_true rfl)⟩ hS rfl hX [] ⟨0, 6, 7, 15⟩ [] htab (fun z hz => absurd hz List.not_mem_nil) (by decide) (by decide) (hts (.classLink RL 15 "java/lang/IllegalArgumentException") (by decide +kernel)) (fun q9 H locs hS => ?_)
  refine W.eq (g2 := F0 m 7 ls [.ref q9]) rfl ?_
  refine lv_astore_n (lv' := [(3, .ref q9), (0, .ref o), (1, .int d), (2, .int b)]) hx hb dL_encode_7 rfl hl (by decide) rfl (fun ls hl => ?_)
  refine lv_ldc (v := (-900001)) hx hb hown (hts (.constant RL 23 (-900001)) (by decide +kernel)) dL_encode_8 ?_
  exact W.iret (v := (-900001)) hx hb hr (fun t ht hW => ⟨⟨(-900001), (), rfl, rfl, trivial⟩, hS.F ht⟩) hS.2.2 dL_encode_10
set_option maxHeartbeats 4000000 in
set_option maxRecDepth 100000 in
theorem x_L_encode_2 (l : Launch) (hstk : l.stackTraces = false) (o : Nat) (d b : Int32) (h1 : ¬ d.toInt64 < 0) (h2 : ¬ 255 < d.toInt64) (h : b.toInt64 < 0 ∨ 1 < b.toInt64) : lx_i l yL_encode wsL_encode ({ frames := 8, cells := 1, slots := 6, locals := 128 } : Room) [.ref o, .int d, .int b] o "java/lang/IllegalArgumentException" (-900001) := by
  intro H0
  refine va_MetW (cc := cL_encode) (maxL := 4) (ret := (some .int)) (hh := [(0, 6, 7, 15)]) (by decide) rfl ?_
  intro p e s m args below meth c s₁ B hml hv
  obtain ⟨rfl, rfl, hrec, hX, hNc⟩ := hv
  have hx := B.exec
  have hb := B.bytes
  have hr := B.returns
  have hts := atoms_spec (ws := wsL_encode) B.pre
  have hown : s.vm.findClass RL = some m.cls := findClass_of_methodNamed B.named
  have hlocks := B.notSynchronized
  have hS : va_S (xA s) s.heap s.heap [] := va_S.rf
  have hA : ∀ q : Nat, s.heap.size ≤ q → xA s q := fun _ h => h
  have hl := lv_entry ([.ref o, .int d, .int b]) (n := 4) (Nat.le_of_ble_eq_true rfl)
  rw [lg_entry_eq]
  generalize (lg_sl ([.ref o, .int d, .int b]) ++ List.replicate (4 - (lg_sl ([.ref o, .int d, .int b])).length) Slot.unset).toArray = ls at hl ⊢
  have hl : lv_has ls 4 [(0, .ref o), (1, .int d), (2, .int b)] := hl
  have htab : c.exceptionTable.toList = _ := vx_table (x := yL_encode) B (hts _ List.mem_cons_self)
  refine lv_aload_n hx hb dL_encode_0 rfl (lv_at hl 0 rfl) ?_
  refine lv_iload_n hx hb dL_encode_1 rfl (lv_at hl 1 rfl) ?_
  refine lv_iload_n hx hb dL_encode_2 rfl (lv_at hl 2 rfl) ?_
  refine lx_catchi (As := [.int d, .int b]) (rest := []) ⟨hx, hb, hml, hown, hts⟩ (x_X8_encode_2 l hstk o d b h1 h2 h) (cwV 2 hts gL_encode_X8_encode rfl rfl rfl (by decide +kernel) ⟨(Nat.le_of_ble_eq_true rfl), (Nat.le_of_ble_eq_true rfl)⟩) hrec rfl hl.1 (lv_room (Nat.le_of_ble_eq_true rfl)) dL_encode_3 ⟨(Nat.le_of_ble_eq_true rfl), (Nat.le_of_ble_eq_true rfl)⟩ hS rfl hX [] ⟨0, 6, 7, 15⟩ [] htab (fun z hz => absurd hz List.not_mem_nil) (by decide) (by decide) (hts (.classLink RL 15 "java/lang/IllegalArgumentException") (by decide +kernel)) (fun q9 H locs hS => ?_)
  refine W.eq (g2 := F0 m 7 ls [.ref q9]) rfl ?_
  refine lv_astore_n (lv' := [(3, .ref q9), (0, .ref o), (1, .int d), (2, .int b)]) hx hb dL_encode_7 rfl hl (by decide) rfl (fun ls hl => ?_)
  refine lv_ldc (v := (-900001)) hx hb hown (hts (.constant RL 23 (-900001)) (by decide +kernel)) dL_encode_8 ?_
  exact W.iret (v := (-900001)) hx hb hr (fun t ht hW => ⟨⟨(-900001), (), rfl, rfl, trivial⟩, hS.F ht⟩) hS.2.2 dL_encode_10
set_option maxHeartbeats 4000000 in
set_option maxRecDepth 100000 in
theorem c_L_decode (l : Launch) (o : Nat) (cl b : Int32) (h1 : ¬ cl.toInt64 < 0) (h2 : ¬ 65535 < cl.toInt64) (h3 : ¬ b.toInt64 < 0) (h4 : ¬ 1 < b.toInt64) (he : fByte (fData cl) b = cl) : lo_i l yL_decode wsL_decode ({ frames := 2, cells := 0, slots := 0, locals := 49 } : Room) [.ref o, .int cl, .int b] o (fData cl) := by
  intro H0
  refine va_MetW (cc := cL_decode) (maxL := 4) (ret := (some .int)) (hh := [(0, 6, 7, 15), (0, 6, 11, 24)]) (by decide) rfl ?_
  intro p e s m args below meth c s₁ B hml hv
  obtain ⟨rfl, rfl, hrec⟩ := hv
  have hx := B.exec
  have hb := B.bytes
  have hr := B.returns
  have hts := atoms_spec (ws := wsL_decode) B.pre
  have hown : s.vm.findClass RL = some m.cls := findClass_of_methodNamed B.named
  have hlocks := B.notSynchronized
  have hS : va_S (xA s) s.heap s.heap [] := va_S.rf
  have hA : ∀ q : Nat, s.heap.size ≤ q → xA s q := fun _ h => h
  have hl := lv_entry ([.ref o, .int cl, .int b]) (n := 4) (Nat.le_of_ble_eq_true rfl)
  rw [lg_entry_eq]
  generalize (lg_sl ([.ref o, .int cl, .int b]) ++ List.replicate (4 - (lg_sl ([.ref o, .int cl, .int b])).length) Slot.unset).toArray = ls at hl ⊢
  have hl : lv_has ls 4 [(0, .ref o), (1, .int cl), (2, .int b)] := hl
  refine lv_aload_n hx hb dL_decode_0 rfl (lv_at hl 0 rfl) ?_
  refine lv_iload_n hx hb dL_decode_1 rfl (lv_at hl 1 rfl) ?_
  refine lv_iload_n hx hb dL_decode_2 rfl (lv_at hl 2 rfl) ?_
  refine pu_callVi (As := [.int cl, .int b]) (rest := []) ⟨hx, hb, hml, hown, hts⟩ (c_X8_decode l o cl b h1 h2 h3 h4 he) (cwV 2 hts gL_decode_X8_decode rfl rfl rfl (by decide +kernel) ⟨(Nat.le_of_ble_eq_true rfl), (Nat.le_of_ble_eq_true rfl)⟩) hrec rfl hl.1 (lv_room (Nat.le_of_ble_eq_true rfl)) dL_decode_3 ⟨Nat.zero_le _, Nat.zero_le _⟩ hS hA rfl (fun locs hS => ?_)
  exact W.iret (v := fData cl) hx hb hr (fun t ht hW => ⟨⟨fData cl, (), rfl, rfl, ht⟩, hS.F ht⟩) hS.2.2 dL_decode_6
set_option maxHeartbeats 4000000 in
set_option maxRecDepth 100000 in
theorem x_L_decode_1 (l : Launch) (hstk : l.stackTraces = false) (o : Nat) (cl b : Int32) (h : cl.toInt64 < 0 ∨ 65535 < cl.toInt64) : lx_i l yL_decode wsL_decode ({ frames := 8, cells := 1, slots := 6, locals := 129 } : Room) [.ref o, .int cl, .int b] o "java/lang/IllegalArgumentException" (-900001) := by
  intro H0
  refine va_MetW (cc := cL_decode) (maxL := 4) (ret := (some .int)) (hh := [(0, 6, 7, 15), (0, 6, 11, 24)]) (by decide) rfl ?_
  intro p e s m args below meth c s₁ B hml hv
  obtain ⟨rfl, rfl, hrec, hX, hNc⟩ := hv
  have hx := B.exec
  have hb := B.bytes
  have hr := B.returns
  have hts := atoms_spec (ws := wsL_decode) B.pre
  have hown : s.vm.findClass RL = some m.cls := findClass_of_methodNamed B.named
  have hlocks := B.notSynchronized
  have hS : va_S (xA s) s.heap s.heap [] := va_S.rf
  have hA : ∀ q : Nat, s.heap.size ≤ q → xA s q := fun _ h => h
  have hl := lv_entry ([.ref o, .int cl, .int b]) (n := 4) (Nat.le_of_ble_eq_true rfl)
  rw [lg_entry_eq]
  generalize (lg_sl ([.ref o, .int cl, .int b]) ++ List.replicate (4 - (lg_sl ([.ref o, .int cl, .int b])).length) Slot.unset).toArray = ls at hl ⊢
  have hl : lv_has ls 4 [(0, .ref o), (1, .int cl), (2, .int b)] := hl
  have htab : c.exceptionTable.toList = _ := vx_table (x := yL_decode) B (hts _ List.mem_cons_self)
  refine lv_aload_n hx hb dL_decode_0 rfl (lv_at hl 0 rfl) ?_
  refine lv_iload_n hx hb dL_decode_1 rfl (lv_at hl 1 rfl) ?_
  refine lv_iload_n hx hb dL_decode_2 rfl (lv_at hl 2 rfl) ?_
  refine lx_catchi (As := [.int cl, .int b]) (rest := []) ⟨hx, hb, hml, hown, hts⟩ (x_X8_decode_1 l hstk o cl b h) (cwV 2 hts gL_decode_X8_decode rfl rfl rfl (by decide +kernel) ⟨(Nat.le_of_ble_eq_true rfl), (Nat.le_of_ble_eq_true rfl)⟩) hrec rfl hl.1 (lv_room (Nat.le_of_ble_eq_true rfl)) dL_decode_3 ⟨(Nat.le_of_ble_eq_true rfl), (Nat.le_of_ble_eq_true rfl)⟩ hS rfl hX [] ⟨0, 6, 7, 15⟩ [⟨0, 6, 11, 24⟩] htab (fun z hz => absurd hz List.not_mem_nil) (by decide) (by decide) (hts (.classLink RL 15 "java/lang/IllegalArgumentException") (by decide +kernel)) (fun q9 H locs hS => ?_)
  refine W.eq (g2 := F0 m 7 ls [.ref q9]) rfl ?_
  refine lv_astore_n (lv' := [(3, .ref q9), (0, .ref o), (1, .int cl), (2, .int b)]) hx hb dL_decode_7 rfl hl (by decide) rfl (fun ls hl => ?_)
  refine lv_ldc (v := (-900001)) hx hb hown (hts (.constant RL 23 (-900001)) (by decide +kernel)) dL_decode_8 ?_
  exact W.iret (v := (-900001)) hx hb hr (fun t ht hW => ⟨⟨(-900001), (), rfl, rfl, trivial⟩, hS.F ht⟩) hS.2.2 dL_decode_10
set_option maxHeartbeats 4000000 in
set_option maxRecDepth 100000 in
theorem x_L_decode_2 (l : Launch) (hstk : l.stackTraces = false) (o : Nat) (cl b : Int32) (h1 : ¬ cl.toInt64 < 0) (h2 : ¬ 65535 < cl.toInt64) (h3 : ¬ b.toInt64 < 0) (h4 : ¬ 1 < b.toInt64) (hne : ¬ fByte (fData cl) b = cl) : lx_i l yL_decode wsL_decode ({ frames := 8, cells := 1, slots := 6, locals := 129 } : Room) [.ref o, .int cl, .int b] o "java/util/NoSuchElementException" (-900002) := by
  intro H0
  refine va_MetW (cc := cL_decode) (maxL := 4) (ret := (some .int)) (hh := [(0, 6, 7, 15), (0, 6, 11, 24)]) (by decide) rfl ?_
  intro p e s m args below meth c s₁ B hml hv
  obtain ⟨rfl, rfl, hrec, hX, hNc⟩ := hv
  have hx := B.exec
  have hb := B.bytes
  have hr := B.returns
  have hts := atoms_spec (ws := wsL_decode) B.pre
  have hown : s.vm.findClass RL = some m.cls := findClass_of_methodNamed B.named
  have hlocks := B.notSynchronized
  have hS : va_S (xA s) s.heap s.heap [] := va_S.rf
  have hA : ∀ q : Nat, s.heap.size ≤ q → xA s q := fun _ h => h
  have hl := lv_entry ([.ref o, .int cl, .int b]) (n := 4) (Nat.le_of_ble_eq_true rfl)
  rw [lg_entry_eq]
  generalize (lg_sl ([.ref o, .int cl, .int b]) ++ List.replicate (4 - (lg_sl ([.ref o, .int cl, .int b])).length) Slot.unset).toArray = ls at hl ⊢
  have hl : lv_has ls 4 [(0, .ref o), (1, .int cl), (2, .int b)] := hl
  have htab : c.exceptionTable.toList = _ := vx_table (x := yL_decode) B (hts _ List.mem_cons_self)
  refine lv_aload_n hx hb dL_decode_0 rfl (lv_at hl 0 rfl) ?_
  refine lv_iload_n hx hb dL_decode_1 rfl (lv_at hl 1 rfl) ?_
  refine lv_iload_n hx hb dL_decode_2 rfl (lv_at hl 2 rfl) ?_
  refine lx_catchi (As := [.int cl, .int b]) (rest := []) ⟨hx, hb, hml, hown, hts⟩ (x_X8_decode_2 l hstk o cl b h1 h2 h3 h4 hne) (cwV 2 hts gL_decode_X8_decode rfl rfl rfl (by decide +kernel) ⟨(Nat.le_of_ble_eq_true rfl), (Nat.le_of_ble_eq_true rfl)⟩) hrec rfl hl.1 (lv_room (Nat.le_of_ble_eq_true rfl)) dL_decode_3 ⟨(Nat.le_of_ble_eq_true rfl), (Nat.le_of_ble_eq_true rfl)⟩ hS rfl hX [⟨0, 6, 7, 15⟩] ⟨0, 6, 11, 24⟩ [] htab (fun z hz => by rcases List.mem_singleton.mp hz with rfl; exact Or.inr ⟨by decide, "java/lang/IllegalArgumentException", hts (.classLink RL 15 "java/lang/IllegalArgumentException") (by decide +kernel), hNc⟩) (by decide) (by decide) (hts (.classLink RL 24 "java/util/NoSuchElementException") (by decide +kernel)) (fun q9 H locs hS => ?_)
  refine W.eq (g2 := F0 m 11 ls [.ref q9]) rfl ?_
  refine lv_astore_n (lv' := [(3, .ref q9), (0, .ref o), (1, .int cl), (2, .int b)]) hx hb dL_decode_11 rfl hl (by decide) rfl (fun ls hl => ?_)
  refine lv_ldc (v := (-900002)) hx hb hown (hts (.constant RL 26 (-900002)) (by decide +kernel)) dL_decode_12 ?_
  exact W.iret (v := (-900002)) hx hb hr (fun t ht hW => ⟨⟨(-900002), (), rfl, rfl, trivial⟩, hS.F ht⟩) hS.2.2 dL_decode_14
set_option maxHeartbeats 4000000 in
set_option maxRecDepth 100000 in
theorem x_L_sample (l : Launch) (hstk : l.stackTraces = false) (o : Nat) (x : Int32) (h : x.toInt64 < -40 ∨ 40 < x.toInt64) : lx_i l yL_sample wsL_sample ({ frames := 8, cells := 1, slots := 6, locals := 127 } : Room) [.ref o, .int x] o "java/lang/IllegalArgumentException" (-900001) := by
  intro H0
  refine va_MetW (cc := cL_sample) (maxL := 3) (ret := (some .int)) (hh := [(0, 5, 6, 15), (0, 5, 10, 41)]) (by decide) rfl ?_
  intro p e s m args below meth c s₁ B hml hv
  obtain ⟨rfl, rfl, hrec, hX, hNc⟩ := hv
  have hx := B.exec
  have hb := B.bytes
  have hr := B.returns
  have hts := atoms_spec (ws := wsL_sample) B.pre
  have hown : s.vm.findClass RL = some m.cls := findClass_of_methodNamed B.named
  have hlocks := B.notSynchronized
  have hS : va_S (xA s) s.heap s.heap [] := va_S.rf
  have hA : ∀ q : Nat, s.heap.size ≤ q → xA s q := fun _ h => h
  have hl := lv_entry ([.ref o, .int x]) (n := 3) (Nat.le_of_ble_eq_true rfl)
  rw [lg_entry_eq]
  generalize (lg_sl ([.ref o, .int x]) ++ List.replicate (3 - (lg_sl ([.ref o, .int x])).length) Slot.unset).toArray = ls at hl ⊢
  have hl : lv_has ls 3 [(0, .ref o), (1, .int x)] := hl
  have htab : c.exceptionTable.toList = _ := vx_table (x := yL_sample) B (hts _ List.mem_cons_self)
  refine lv_aload_n hx hb dL_sample_0 rfl (lv_at hl 0 rfl) ?_
  refine lv_iload_n hx hb dL_sample_1 rfl (lv_at hl 1 rfl) ?_
  refine lx_catchi (As := [.int x]) (rest := []) ⟨hx, hb, hml, hown, hts⟩ (x_X8_sample l hstk o x h) (cwV 1 hts gL_sample_X8_sample rfl rfl rfl (by decide +kernel) ⟨(Nat.le_of_ble_eq_true rfl), (Nat.le_of_ble_eq_true rfl)⟩) hrec rfl hl.1 (lv_room (Nat.le_of_ble_eq_true rfl)) dL_sample_2 ⟨(Nat.le_of_ble_eq_true rfl), (Nat.le_of_ble_eq_true rfl)⟩ hS rfl hX [] ⟨0, 5, 6, 15⟩ [⟨0, 5, 10, 41⟩] htab (fun z hz => absurd hz List.not_mem_nil) (by decide) (by decide) (hts (.classLink RL 15 "java/lang/IllegalArgumentException") (by decide +kernel)) (fun q9 H locs hS => ?_)
  refine W.eq (g2 := F0 m 6 ls [.ref q9]) rfl ?_
  refine lv_astore_n (lv' := [(2, .ref q9), (0, .ref o), (1, .int x)]) hx hb dL_sample_6 rfl hl (by decide) rfl (fun ls hl => ?_)
  refine lv_ldc (v := (-900001)) hx hb hown (hts (.constant RL 23 (-900001)) (by decide +kernel)) dL_sample_7 ?_
  exact W.iret (v := (-900001)) hx hb hr (fun t ht hW => ⟨⟨(-900001), (), rfl, rfl, trivial⟩, hS.F ht⟩) hS.2.2 dL_sample_9
end
