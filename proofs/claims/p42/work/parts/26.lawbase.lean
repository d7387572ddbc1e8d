/-! THE CLAIM OUT OF ONE WALK OF THE LAW'S BODY. Your part is whole_start (and what it stands on); all else here is the same for every law, but numbers. -/
def R_law : String := "ShingletrackLaw"
def lw_P (b : Addr) (xs : List Int32) (args : Array Value) (s : State) : Prop := args = #[.ref b] ∧ s.IntsAt b xs ∧ xs.length ≤ 260 ∧ (Jvm.Cond.and given_1 narrow_1).before args s = true
def lw_Q (_ : Array Value) (s : State) (o : Outcome) (t : State) : Prop := o = .returned (some (.int 1)) ∧ Framed s o t [] 604962 7286739
def lw_Z (below : List Frame) (a : Array Value) (s : State) : State → Prop := fun t => ∃ o, t.status = .running ∧ Ended t below o ∧ lw_Q a s o t
/-- the law's own end, with 1 on the stack, nothing written that was there before, its room as the claim has it -/
theorem lw_ret {p : Program} {l : Launch} {e : Env} {s : State} {m : MethodId} {below : List Frame} {meth : Method} {c : Code} {b : Nat} (hx : p.tables.exec = Jvm.exec) (hb : c.code = code) (hr : meth.sig.returnType = ret) (hlocks : meth.locks = false) {pc : Nat} {H : Heap} {ls : Array Slot} (hdg : decode code pc = .ok (.ireturn, 1)) : W p l e room_1 s m #[Value.ref b] below meth c H [] 604962 7286739 (lw_Z below #[Value.ref b] s) (F0 m pc ls [.int 1]) := by
  intro T hT X
  obtain ⟨fs, hret, hrun, hended, hW, hframe⟩ := X.leave (v := some (.int 1)) (hlocks := hlocks) (fun h => by rw [hr] at h; cases h)
  have hmeth' : T.vm.method? m = some meth := X.method'
  refine ⟨T.setFrames fs, ?_, .returned (some (.int 1)), hrun, hended, rfl, ⟨_, rfl⟩, hW, hframe⟩
  jvm_step X.here [X.here.top, hx, hb, hdg, hmeth', hr, ret, narrow_b1]
  (try refine ⟨rfl, ?_⟩); (try refine ⟨rfl, ?_⟩)
  first | (intro acts; rw [hret _ acts rfl rfl rfl]) | rw [hret _ _ rfl rfl rfl]
  exact Steps.refl _
/-- what holds at the law's entry: the machine, the code, the tables' words (any of lw_tbl by 'hts w (by decide +kernel)'), the script of L ints xs at the cell b, what the Statement gives of the start (any of its parts by flat_of_before) -/
def lw_At (p : Program) (s : State) (m : MethodId) (meth : Method) (c : Code) (b L : Nat) (xs : Nat → Int32) : Prop :=
  p.tables.exec = Jvm.exec ∧ c.code = code ∧ meth.sig.returnType = ret ∧ c.maxLocals = 24 ∧ s.vm.findClass R_law = some m.cls ∧ (∀ w ∈ lw_tbl, w.before #[Value.ref b] s = true) ∧ va_X b L xs s s.heap ∧ b < s.heap.size ∧ meth.locks = false ∧ (Jvm.Cond.and given_1 narrow_1).before #[Value.ref b] s = true

/-! The object's cells by an address book v: the object, the channel's eleven, the buffer, and of the platter what isSound reads -/
abbrev oW (cJ : ClassId) (v : Nat → Nat) (th : Int32) (sa sq nu ns nn f : Nat → Int64) : va_W := [((v 0), .inr (6, [.ref (v 1), .ref (v 12), .ref (v 13), .ref (v 22), .int 0, .int 20, .int 0, .int 0])), ((v 1), .inr (1, [.ref (v 2), .int th, .ref (v 4), .ref (v 6), .ref (v 8), .ref (v 10)])), ((v 2), .inr (3, [.ref (v 3)])), ((v 3), .inl (cJ, 12, .inr (.inl sa))), ((v 4), .inr (3, [.ref (v 5)])), ((v 5), .inl (cJ, 4, .inr (.inl sq))), ((v 6), .inr (3, [.ref (v 7)])), ((v 7), .inl (cJ, 4, .inr (.inl nu))), ((v 8), .inr (3, [.ref (v 9)])), ((v 9), .inl (cJ, 4, .inr (.inl ns))), ((v 10), .inr (3, [.ref (v 11)])), ((v 11), .inl (cJ, 4, .inr (.inl nn))), ((v 12), .inr (0, [.ref (v 23), .ref (v 24), .int 0])), ((v 13), .inr (2, [.ref (v 14), .ref (v 17), .ref (v 25), .ref (v 26), .ref (v 27), .ref (v 28), .ref (v 20), .ref (v 29), .int 0, .int 0, .int 0, .int 0, .int 0])), ((v 14), .inr (5, [.ref (v 15), .ref (v 30)])), ((v 15), .inr (3, [.ref (v 16)])), ((v 16), .inl (cJ, 60, .inr (.inl f))), ((v 17), .inr (5, [.ref (v 18), .ref (v 31)])), ((v 18), .inr (3, [.ref (v 19)])), ((v 19), .inl (cJ, 60, .inr (.inl f))), ((v 20), .inr (3, [.ref (v 21)])), ((v 21), .inl (cJ, 60, .inr (.inl f)))]
/-- what stands at the law's start beside lw_At -/
def lawC (l : Launch) (s : State) (D : va_G) (cJ : ClassId) : Prop := l.stackTraces = false ∧ va_K D vwCl [(cJ, .long)] s ∧ xK "java/lang/IllegalArgumentException" s ∧ xK "java/util/NoSuchElementException" s ∧ xNc s ∧ nkZone s
theorem lMask {n V : Nat} (hn : n < 2 ^ 32) (h : n % 65536 = V) : lN n &&& 65535 = lN V := by
  rw [show (65535 : Int64) = lN (2 ^ 16 - 1) from rfl, wb_mask (by omega) (by decide)]
  exact congrArg lN h
theorem lN_ne1 {n : Nat} (hn : n < 2 ^ 32) : ¬ lN n = -1 := by
  intro h
  have h1 := lN_nn hn
  rw [h] at h1
  exact h1 (by decide)
theorem lRem {a d : Nat} (ha : a < 2 ^ 31) (h0 : 0 < d) (hd : d < 2 ^ 31) : nI a - nI a / nI d * nI d = nI (a % d) := pk_rem ha h0 hd
theorem zWord : fOf 0 = 0 := by
  have h := cOf (V := 0) (by decide)
  rw [wN_0] at h
  exact h
theorem zRep : ¬ fRep 0 0 = -1 := by
  rw [show fRep 0 0 = lN 0 from (m0 (n := 0) (by decide) sy_0).1]
  decide
theorem zMended : fDiff 0 (fRep 0 0) = 0 := by
  rw [show fRep 0 0 = lN 0 from (m0 (n := 0) (by decide) sy_0).1]
  exact (m0 (n := 0) (by decide) sy_0).2
theorem wkNo {P d : Nat} (hP : P < 256) (hd : d < 8) (h : (nI P >>> (nI d &&& 31)) &&& 1 = 0) : P.testBit d = false := by
  cases hb : P.testBit d with
  | false => rfl
  | true =>
    have h1 := (cBit P hP d hd).mpr ((tb P d).mpr hb)
    rw [h] at h1
    exact absurd h1 (by decide)
