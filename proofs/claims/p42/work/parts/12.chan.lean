/-! The channel: its rows as functions, each of 4 numbers (the samples': 12) -/
def kOff (x : Int64) (st c : Nat) : Int64 := x - ((10 : Int32) * (nI c - (nI st >>> ((1 : Int32) &&& 31)))).toInt64
def kSq (x : Int64) (sq : Nat → Int64) (st c : Nat) : Int64 := fAt 4 sq (nI st) + kOff x st c * kOff x st c
def kNu (nu : Nat → Int64) (st c : Nat) : Int64 := (fAt 4 nu (nI st) <<< ((1 : Int32).toInt64 &&& 63)) ||| (nI c).toInt64
def kNx (st c : Nat) : Int32 := ((nI st &&& 1) <<< (1 &&& 31)) ||| nI c
def kIn (x : Int64) (sq nu : Nat → Int64) (st : Nat) : Nat → Nat → (Nat → Int64) → (Nat → Int64) → (Nat → Int64) × (Nat → Int64)
  | 0, _, ns, nn => (ns, nn)
  | n+1, c, ns, nn => if fBetter (kSq x sq st c) (kNu nu st c) (fAt 4 ns (kNx st c)) (fAt 4 nn (kNx st c)) = 0 then kIn x sq nu st n (c+1) ns nn else kIn x sq nu st n (c+1) (fPut 4 ns (kNx st c) (kSq x sq st c)) (fPut 4 nn (kNx st c) (kNu nu st c))
def kSt (x : Int64) (sq nu : Nat → Int64) : Nat → Nat → (Nat → Int64) → (Nat → Int64) → (Nat → Int64) × (Nat → Int64)
  | 0, _, ns, nn => (ns, nn)
  | n+1, k, ns, nn => kSt x sq nu n (k+1) (kIn x sq nu k 2 0 ns nn).1 (kIn x sq nu k 2 0 ns nn).2
def kCp (f : Nat → Int64) : Nat → Nat → (Nat → Int64) → (Nat → Int64)
  | 0, _, g => g
  | n+1, k, g => kCp f n (k+1) (fPut 4 g (nI k) (fAt 4 f (nI k)))
set_option maxHeartbeats 4000000 in
set_option maxRecDepth 100000 in
theorem c_X2_size (l : Launch) (D : va_G) (cJ : ClassId) (c0 a1 a3 a5 a7 a9 : Nat) (th : Int32) : rc_i l yX2_size wsX2_size ({ frames := 0, cells := 0, slots := 0, locals := 0 } : Room) [.ref c0] D cJ [(c0, .inr (1, [.ref a1, .int th, .ref a3, .ref a5, .ref a7, .ref a9]))] th := by
  intro H0
  refine Met.ofW (cc := cX2_size) (maxL := 1) (ret := (some .int)) (by decide) rfl ?_
  intro p e s m args below meth c s₁ B hml hv
  obtain ⟨rfl, rfl, hP, hK⟩ := hv
  have hx := B.exec
  have hb := B.bytes
  have hr := B.returns
  have hts := atoms_spec (ws := wsX2_size) B.pre
  have hown : s.vm.findClass RX2 = some m.cls := findClass_of_methodNamed B.named
  have hlocks := B.notSynchronized
  have hS : va_S (fun q => s.heap.size ≤ q) s.heap s.heap [] := va_S.rf
  have hA : ∀ q : Nat, s.heap.size ≤ q → (fun q : Nat => s.heap.size ≤ q) q := fun _ h => h
  have hl := lv_entry ([.ref c0]) (n := 1) (Nat.le_of_ble_eq_true rfl)
  rw [lg_entry_eq]
  generalize (lg_sl ([.ref c0]) ++ List.replicate (1 - (lg_sl ([.ref c0])).length) Slot.unset).toArray = ls at hl ⊢
  have hl : lv_has ls 1 [(0, .ref c0)] := hl
  refine lv_aload_n hx hb dX2_size_0 rfl (lv_at hl 0 rfl) ?_
  refine va_get (D := D) (ci := 1) (v := .int th) (C := RX2) (T := TX2) (N := 6) hx hb hts (by decide +kernel) hown hK hP 0 rfl rfl 1 (by decide) (hts (.fieldLink RX2 20 "Shingletrack$Channel" "samplesThere" "I") (by decide +kernel)) (fun _ h9 => h9) rfl dX2_size_1 ?_
  exact W.iret (v := th) hx hb hr (fun t ht hW => ⟨⟨th, (), rfl, rfl, ht⟩, hS.F ht⟩) hS.2.2 dX2_size_4
set_option maxHeartbeats 4000000 in
set_option maxRecDepth 100000 in
theorem c_X2_add (l : Launch) (D : va_G) (cJ : ClassId) (c0 a1 a2 a3 a5 a7 a9 : Nat) (th : Int32) (sa : Nat → Int64) (i : Int32) : wc_i l yX2_add wsX2_add ({ frames := 1, cells := 0, slots := 0, locals := 23 } : Room) [.ref c0, .int i] D cJ [(c0, .inr (1, [.ref a1, .int th, .ref a3, .ref a5, .ref a7, .ref a9])), (a1, .inr (3, [.ref a2])), (a2, .inl (cJ, 12, .inr (.inl sa)))] [(c0, .inr (1, [.ref a1, .int (th + 1), .ref a3, .ref a5, .ref a7, .ref a9])), (a1, .inr (3, [.ref a2])), (a2, .inl (cJ, 12, .inr (.inl (fPut 12 sa th i.toInt64))))] (th + 1) := by
  intro sz
  refine Met.ofW (cc := cX2_add) (maxL := 2) (ret := (some .int)) (by decide) rfl ?_
  intro p e s m args below meth c s₁ B hml hv
  obtain ⟨rfl, rfl, hP, hK, hD0⟩ := hv
  have hx := B.exec
  have hb := B.bytes
  have hr := B.returns
  have hts := atoms_spec (ws := wsX2_add) B.pre
  have hown : s.vm.findClass RX2 = some m.cls := findClass_of_methodNamed B.named
  have hlocks := B.notSynchronized
  have hS : va_S (va_A [(c0, .inr (1, [.ref a1, .int th, .ref a3, .ref a5, .ref a7, .ref a9])), (a1, .inr (3, [.ref a2])), (a2, .inl (cJ, 12, .inr (.inl sa)))] s.heap.size) s.heap s.heap [] := va_S.rf
  have hD := hD0.self (sz := s.heap.size)
  have hA : ∀ q : Nat, s.heap.size ≤ q → (va_A [(c0, .inr (1, [.ref a1, .int th, .ref a3, .ref a5, .ref a7, .ref a9])), (a1, .inr (3, [.ref a2])), (a2, .inl (cJ, 12, .inr (.inl sa)))] s.heap.size) q := fun _ h => Or.inr h
  have hl := lv_entry ([.ref c0, .int i]) (n := 2) (Nat.le_of_ble_eq_true rfl)
  rw [lg_entry_eq]
  generalize (lg_sl ([.ref c0, .int i]) ++ List.replicate (2 - (lg_sl ([.ref c0, .int i])).length) Slot.unset).toArray = ls at hl ⊢
  have hl : lv_has ls 2 [(0, .ref c0), (1, .int i)] := hl
  have hP : va_P D vwCl [(c0, .inr (1, [.ref a1, .int th, .ref a3, .ref a5, .ref a7, .ref a9])), (a1, .inr (3, [.ref a2])), (a2, .inl (cJ, 12, .inr (.inl sa)))] s.heap := hP
  refine lv_aload_n hx hb dX2_add_0 rfl (lv_at hl 0 rfl) ?_
  refine va_get (D := D) (ci := 1) (v := .ref a1) (C := RX2) (T := TX2) (N := 6) hx hb hts (by decide +kernel) hown hK hP 0 rfl rfl 0 (by decide) (hts (.fieldLink RX2 14 "Shingletrack$Channel" "samples" "LShingletrack$Row;") (by decide +kernel)) (fun _ h9 => h9) rfl dX2_add_1 ?_
  refine lv_aload_n hx hb dX2_add_4 rfl (lv_at hl 0 rfl) ?_
  refine va_get (D := D) (ci := 1) (v := .int th) (C := RX2) (T := TX2) (N := 6) hx hb hts (by decide +kernel) hown hK hP 0 rfl rfl 1 (by decide) (hts (.fieldLink RX2 20 "Shingletrack$Channel" "samplesThere" "I") (by decide +kernel)) (fun _ h9 => h9) rfl dX2_add_5 ?_
  refine lv_iload_n hx hb dX2_add_8 rfl (lv_at hl 1 rfl) ?_
  refine lv_i2l hx hb dX2_add_9 rfl ?_
  refine wu_callv (wr := [(c0, .inr (1, [.ref a1, .int th, .ref a3, .ref a5, .ref a7, .ref a9]))]) (wn := [(c0, .inr (1, [.ref a1, .int th, .ref a3, .ref a5, .ref a7, .ref a9])), (a1, .inr (3, [.ref a2])), (a2, .inl (cJ, 12, .inr (.inl (fPut 12 sa th i.toInt64))))]) (As := [.int th, .long i.toInt64]) (rest := []) ⟨hx, hb, hml, hown, hts⟩ (c_X4_put l D cJ a1 a2 12 (by decide) sa th i.toInt64) (cwV 2 hts gX2_add_X4_put rfl rfl rfl (by decide +kernel) ⟨(Nat.le_of_ble_eq_true rfl), (Nat.le_of_ble_eq_true rfl)⟩) (va_recv hK hP (ci := 3) (q0 := 1) rfl rfl) rfl hl.1 (lv_room (Nat.le_of_ble_eq_true rfl)) dX2_add_10 ⟨(Nat.le_of_ble_eq_true rfl), (Nat.le_of_ble_eq_true rfl)⟩ hS hA rfl hK hP hD [1, 2] [0] [0, 1, 2] rfl rfl (by decide) rfl (by decide) (by decide) rfl rfl (by decide) (fun H locs hP hD hS => ?_)
  refine lv_aload_n hx hb dX2_add_13 rfl (lv_at hl 0 rfl) ?_
  refine lv_dup hx hb dX2_add_14 rfl ?_
  refine va_get (D := D) (ci := 1) (v := .int th) (C := RX2) (T := TX2) (N := 6) hx hb hts (by decide +kernel) hown hK hP 0 rfl rfl 1 (by decide) (hts (.fieldLink RX2 20 "Shingletrack$Channel" "samplesThere" "I") (by decide +kernel)) (fun _ h9 => h9) rfl dX2_add_15 ?_
  refine lv_iconst (v := 1) hx hb dX2_add_18 (by decide) ?_
  refine lv_iadd hx hb dX2_add_19 ?_
  refine va_put (D := D) (ci := 1) (v := .int (th + 1)) (ty := .int) (C := RX2) (T := TX2) (N := 6) hx hb hts (by decide +kernel) tyX2 tyX2_ok nmX2 hown hK hP hD hS 0 rfl rfl 1 (by decide) (hts (.fieldLink RX2 20 "Shingletrack$Channel" "samplesThere" "I") (by decide +kernel)) (fun _ h9 => h9) rfl (by decide +kernel) rfl rfl (Nat.le_of_ble_eq_true rfl) dX2_add_20 (fun H locs hP hD hS => ?_)
  have hP : va_P D vwCl [(c0, .inr (1, [.ref a1, .int (th + 1), .ref a3, .ref a5, .ref a7, .ref a9])), (a1, .inr (3, [.ref a2])), (a2, .inl (cJ, 12, .inr (.inl (fPut 12 sa th i.toInt64))))] H := hP
  have hD : va_D (va_A [(c0, .inr (1, [.ref a1, .int th, .ref a3, .ref a5, .ref a7, .ref a9])), (a1, .inr (3, [.ref a2])), (a2, .inl (cJ, 12, .inr (.inl sa)))] s.heap.size) [(c0, .inr (1, [.ref a1, .int (th + 1), .ref a3, .ref a5, .ref a7, .ref a9])), (a1, .inr (3, [.ref a2])), (a2, .inl (cJ, 12, .inr (.inl (fPut 12 sa th i.toInt64))))] := hD
  refine lv_aload_n hx hb dX2_add_23 rfl (lv_at hl 0 rfl) ?_
  refine va_get (D := D) (ci := 1) (v := .int (th + 1)) (C := RX2) (T := TX2) (N := 6) hx hb hts (by decide +kernel) hown hK hP 0 rfl rfl 1 (by decide) (hts (.fieldLink RX2 20 "Shingletrack$Channel" "samplesThere" "I") (by decide +kernel)) (fun _ h9 => h9) rfl dX2_add_24 ?_
  exact W.iret (v := (th + 1)) hx hb hr (fun t ht hW => ⟨⟨(th + 1), [(c0, .inr (1, [.ref a1, .int (th + 1), .ref a3, .ref a5, .ref a7, .ref a9])), (a1, .inr (3, [.ref a2])), (a2, .inl (cJ, 12, .inr (.inl (fPut 12 sa th i.toInt64))))], rfl, ⟨rfl, rfl⟩, (by rw [ht]; exact hP), va_K.moved hW.alike hK, hD⟩, hS.F ht⟩) hS.2.2 dX2_add_27
set_option maxHeartbeats 4000000 in
set_option maxRecDepth 100000 in
theorem c_X2_goOn (l : Launch) (D : va_G) (cJ : ClassId) (c0 a1 a3 a4 a5 a6 a7 a8 a9 a10 : Nat) (th : Int32) (sq nu ns nn NS NN : Nat → Int64) (x : Int64) (hN : kSt x sq nu 4 0 (fFil ns 1000000 4) (fFil nn 0 4) = (NS, NN)) : wc_v l yX2_goOn wsX2_goOn ({ frames := 1, cells := 0, slots := 0, locals := 27 } : Room) [.ref c0, .long x] D cJ [(c0, .inr (1, [.ref a1, .int th, .ref a3, .ref a5, .ref a7, .ref a9])), (a3, .inr (3, [.ref a4])), (a4, .inl (cJ, 4, .inr (.inl sq))), (a5, .inr (3, [.ref a6])), (a6, .inl (cJ, 4, .inr (.inl nu))), (a7, .inr (3, [.ref a8])), (a8, .inl (cJ, 4, .inr (.inl ns))), (a9, .inr (3, [.ref a10])), (a10, .inl (cJ, 4, .inr (.inl nn)))] [(c0, .inr (1, [.ref a1, .int th, .ref a3, .ref a5, .ref a7, .ref a9])), (a3, .inr (3, [.ref a4])), (a4, .inl (cJ, 4, .inr (.inl (kCp NS 4 0 sq)))), (a5, .inr (3, [.ref a6])), (a6, .inl (cJ, 4, .inr (.inl (kCp NN 4 0 nu)))), (a7, .inr (3, [.ref a8])), (a8, .inl (cJ, 4, .inr (.inl NS))), (a9, .inr (3, [.ref a10])), (a10, .inl (cJ, 4, .inr (.inl NN)))] := by
  intro sz
  refine Met.ofW (cc := cX2_goOn) (maxL := 12) (ret := none) (by decide) rfl ?_
  intro p e s m args below meth c s₁ B hml hv
  obtain ⟨rfl, rfl, hP, hK, hD0⟩ := hv
  have hx := B.exec
  have hb := B.bytes
  have hr := B.returns
  have hts := atoms_spec (ws := wsX2_goOn) B.pre
  have hown : s.vm.findClass RX2 = some m.cls := findClass_of_methodNamed B.named
  have hlocks := B.notSynchronized
  have hS : va_S (va_A [(c0, .inr (1, [.ref a1, .int th, .ref a3, .ref a5, .ref a7, .ref a9])), (a3, .inr (3, [.ref a4])), (a4, .inl (cJ, 4, .inr (.inl sq))), (a5, .inr (3, [.ref a6])), (a6, .inl (cJ, 4, .inr (.inl nu))), (a7, .inr (3, [.ref a8])), (a8, .inl (cJ, 4, .inr (.inl ns))), (a9, .inr (3, [.ref a10])), (a10, .inl (cJ, 4, .inr (.inl nn)))] s.heap.size) s.heap s.heap [] := va_S.rf
  have hD := hD0.self (sz := s.heap.size)
  have hA : ∀ q : Nat, s.heap.size ≤ q → (va_A [(c0, .inr (1, [.ref a1, .int th, .ref a3, .ref a5, .ref a7, .ref a9])), (a3, .inr (3, [.ref a4])), (a4, .inl (cJ, 4, .inr (.inl sq))), (a5, .inr (3, [.ref a6])), (a6, .inl (cJ, 4, .inr (.inl nu))), (a7, .inr (3, [.ref a8])), (a8, .inl (cJ, 4, .inr (.inl ns))), (a9, .inr (3, [.ref a10])), (a10, .inl (cJ, 4, .inr (.inl nn)))] s.heap.size) q := fun _ h => Or.inr h
  have hl := lv_entry ([.ref c0, .long x]) (n := 12) (Nat.le_of_ble_eq_true rfl)
  rw [lg_entry_eq]
  generalize (lg_sl ([.ref c0, .long x]) ++ List.replicate (12 - (lg_sl ([.ref c0, .long x])).length) Slot.unset).toArray = ls at hl ⊢
  have hl : lv_has ls 12 [(0, .ref c0), (1, .long x)] := hl
  have hP : va_P D vwCl [(c0, .inr (1, [.ref a1, .int th, .ref a3, .ref a5, .ref a7, .ref a9])), (a3, .inr (3, [.ref a4])), (a4, .inl (cJ, 4, .inr (.inl sq))), (a5, .inr (3, [.ref a6])), (a6, .inl (cJ, 4, .inr (.inl nu))), (a7, .inr (3, [.ref a8])), (a8, .inl (cJ, 4, .inr (.inl ns))), (a9, .inr (3, [.ref a10])), (a10, .inl (cJ, 4, .inr (.inl nn)))] s.heap := hP
  have l3 : ∀ (n k : Nat) (g : Nat → Int64) (g2 : Nat → Int64), k + n = 4 → (kCp NS n k g = kCp NS 4 0 sq ∧ kCp NN n k g2 = kCp NN 4 0 nu) → ∀ (H : Heap) (locs : List Loc) (ls : Array Slot), va_P D vwCl [(c0, .inr (1, [.ref a1, .int th, .ref a3, .ref a5, .ref a7, .ref a9])), (a3, .inr (3, [.ref a4])), (a4, .inl (cJ, 4, .inr (.inl g))), (a5, .inr (3, [.ref a6])), (a6, .inl (cJ, 4, .inr (.inl g2))), (a7, .inr (3, [.ref a8])), (a8, .inl (cJ, 4, .inr (.inl NS))), (a9, .inr (3, [.ref a10])), (a10, .inl (cJ, 4, .inr (.inl NN)))] H → va_D (va_A [(c0, .inr (1, [.ref a1, .int th, .ref a3, .ref a5, .ref a7, .ref a9])), (a3, .inr (3, [.ref a4])), (a4, .inl (cJ, 4, .inr (.inl sq))), (a5, .inr (3, [.ref a6])), (a6, .inl (cJ, 4, .inr (.inl nu))), (a7, .inr (3, [.ref a8])), (a8, .inl (cJ, 4, .inr (.inl ns))), (a9, .inr (3, [.ref a10])), (a10, .inl (cJ, 4, .inr (.inl nn)))] s.heap.size) [(c0, .inr (1, [.ref a1, .int th, .ref a3, .ref a5, .ref a7, .ref a9])), (a3, .inr (3, [.ref a4])), (a4, .inl (cJ, 4, .inr (.inl g))), (a5, .inr (3, [.ref a6])), (a6, .inl (cJ, 4, .inr (.inl g2))), (a7, .inr (3, [.ref a8])), (a8, .inl (cJ, 4, .inr (.inl NS))), (a9, .inr (3, [.ref a10])), (a10, .inl (cJ, 4, .inr (.inl NN)))] → va_S (va_A [(c0, .inr (1, [.ref a1, .int th, .ref a3, .ref a5, .ref a7, .ref a9])), (a3, .inr (3, [.ref a4])), (a4, .inl (cJ, 4, .inr (.inl sq))), (a5, .inr (3, [.ref a6])), (a6, .inl (cJ, 4, .inr (.inl nu))), (a7, .inr (3, [.ref a8])), (a8, .inl (cJ, 4, .inr (.inl ns))), (a9, .inr (3, [.ref a10])), (a10, .inl (cJ, 4, .inr (.inl nn)))] s.heap.size) s.heap H locs → lv_has ls 12 [(0, .ref c0), (1, .long x), (3, .int (nI k))] → W p l e (headSpec wsX2_goOn ({ frames := 1, cells := 0, slots := 0, locals := 27 } : Room)).room s m ([.ref c0, .long x] : List Value).toArray below meth c H locs 0 0 (MQ below (va_Qv (fun u : va_W => u = [(c0, .inr (1, [.ref a1, .int th, .ref a3, .ref a5, .ref a7, .ref a9])), (a3, .inr (3, [.ref a4])), (a4, .inl (cJ, 4, .inr (.inl (kCp NS 4 0 sq)))), (a5, .inr (3, [.ref a6])), (a6, .inl (cJ, 4, .inr (.inl (kCp NN 4 0 nu)))), (a7, .inr (3, [.ref a8])), (a8, .inl (cJ, 4, .inr (.inl NS))), (a9, .inr (3, [.ref a10])), (a10, .inl (cJ, 4, .inr (.inl NN)))]) (wPost D cJ [(c0, .inr (1, [.ref a1, .int th, .ref a3, .ref a5, .ref a7, .ref a9])), (a3, .inr (3, [.ref a4])), (a4, .inl (cJ, 4, .inr (.inl sq))), (a5, .inr (3, [.ref a6])), (a6, .inl (cJ, 4, .inr (.inl nu))), (a7, .inr (3, [.ref a8])), (a8, .inl (cJ, 4, .inr (.inl ns))), (a9, .inr (3, [.ref a10])), (a10, .inl (cJ, 4, .inr (.inl nn)))] s.heap.size) (va_A [(c0, .inr (1, [.ref a1, .int th, .ref a3, .ref a5, .ref a7, .ref a9])), (a3, .inr (3, [.ref a4])), (a4, .inl (cJ, 4, .inr (.inl sq))), (a5, .inr (3, [.ref a6])), (a6, .inl (cJ, 4, .inr (.inl nu))), (a7, .inr (3, [.ref a8])), (a8, .inl (cJ, 4, .inr (.inl ns))), (a9, .inr (3, [.ref a10])), (a10, .inl (cJ, 4, .inr (.inl nn)))] s.heap.size)) ([.ref c0, .long x] : List Value).toArray s 0 0 (va_A [(c0, .inr (1, [.ref a1, .int th, .ref a3, .ref a5, .ref a7, .ref a9])), (a3, .inr (3, [.ref a4])), (a4, .inl (cJ, 4, .inr (.inl sq))), (a5, .inr (3, [.ref a6])), (a6, .inl (cJ, 4, .inr (.inl nu))), (a7, .inr (3, [.ref a8])), (a8, .inl (cJ, 4, .inr (.inl ns))), (a9, .inr (3, [.ref a10])), (a10, .inl (cJ, 4, .inr (.inl nn)))] s.heap.size)) (F0 m 154 ls []) := by
    intro n
    induction n with
    | zero =>
      intro k g g2 hk_l3  hres_l3 H locs ls hP hD hS hl
      obtain rfl : k = 4 := by omega
      refine lv_iload_n hx hb dX2_goOn_154 rfl (lv_at hl 2 rfl) ?_
      refine lv_iconst (v := 4) hx hb dX2_goOn_155 (by decide) ?_
      refine lv_icmp_ge (tgt := 197) hx hb dX2_goOn_156 (by decide) (fun c_156 => ?_) (fun c_156 => absurd c_156 (by decide))
      exact W.vret hx hb hr (fun t ht hW => ⟨⟨[(c0, .inr (1, [.ref a1, .int th, .ref a3, .ref a5, .ref a7, .ref a9])), (a3, .inr (3, [.ref a4])), (a4, .inl (cJ, 4, .inr (.inl g))), (a5, .inr (3, [.ref a6])), (a6, .inl (cJ, 4, .inr (.inl g2))), (a7, .inr (3, [.ref a8])), (a8, .inl (cJ, 4, .inr (.inl NS))), (a9, .inr (3, [.ref a10])), (a10, .inl (cJ, 4, .inr (.inl NN)))], rfl, (by rw [show g = kCp NS 4 0 sq from hres_l3.1, show g2 = kCp NN 4 0 nu from hres_l3.2]), (by rw [ht]; exact hP), va_K.moved hW.alike hK, hD⟩, hS.F ht⟩) hS.2.2 dX2_goOn_197
    | succ n ih =>
      intro k g g2 hk_l3  hres_l3 H locs ls hP hD hS hl
      refine lv_iload_n hx hb dX2_goOn_154 rfl (lv_at hl 2 rfl) ?_
      refine lv_iconst (v := 4) hx hb dX2_goOn_155 (by decide) ?_
      refine lv_icmp_ge (tgt := 197) hx hb dX2_goOn_156 (by decide) (fun c_156 => absurd c_156 (nI_ge (a := k) (b := 4) (by omega) (by omega))) (fun c_156 => ?_)
      refine lv_aload_n hx hb dX2_goOn_159 rfl (lv_at hl 0 rfl) ?_
      refine va_get (D := D) (ci := 1) (v := .ref a3) (C := RX2) (T := TX2) (N := 6) hx hb hts (by decide +kernel) hown hK hP 0 rfl rfl 2 (by decide) (hts (.fieldLink RX2 24 "Shingletrack$Channel" "squares" "LShingletrack$Row;") (by decide +kernel)) (fun _ h9 => h9) rfl dX2_goOn_160 ?_
      refine lv_iload_n hx hb dX2_goOn_163 rfl (lv_at hl 2 rfl) ?_
      refine lv_aload_n hx hb dX2_goOn_164 rfl (lv_at hl 0 rfl) ?_
      refine va_get (D := D) (ci := 1) (v := .ref a7) (C := RX2) (T := TX2) (N := 6) hx hb hts (by decide +kernel) hown hK hP 0 rfl rfl 4 (by decide) (hts (.fieldLink RX2 30 "Shingletrack$Channel" "nextSquares" "LShingletrack$Row;") (by decide +kernel)) (fun _ h9 => h9) rfl dX2_goOn_165 ?_
      refine lv_iload_n hx hb dX2_goOn_168 rfl (lv_at hl 2 rfl) ?_
      refine ru_calll (As := [.int (nI k)]) (rest := [.int (nI k), .ref a3]) ⟨hx, hb, hml, hown, hts⟩ (c_X4_at l D cJ a7 a8 4 (by decide) NS (nI k)) (cwV 1 hts gX2_goOn_X4_at rfl rfl rfl (by decide +kernel) ⟨(Nat.le_of_ble_eq_true rfl), (Nat.le_of_ble_eq_true rfl)⟩) (va_recv hK hP (ci := 3) (q0 := 5) rfl rfl) rfl hl.1 (lv_room (Nat.le_of_ble_eq_true rfl)) dX2_goOn_169 ⟨(Nat.le_of_ble_eq_true rfl), (Nat.le_of_ble_eq_true rfl)⟩ hS hA rfl hK (hP.sub [5, 6] rfl) (fun locs hS => ?_)
      refine wu_callv (wr := [(c0, .inr (1, [.ref a1, .int th, .ref a3, .ref a5, .ref a7, .ref a9])), (a5, .inr (3, [.ref a6])), (a6, .inl (cJ, 4, .inr (.inl g2))), (a7, .inr (3, [.ref a8])), (a8, .inl (cJ, 4, .inr (.inl NS))), (a9, .inr (3, [.ref a10])), (a10, .inl (cJ, 4, .inr (.inl NN)))]) (wn := [(c0, .inr (1, [.ref a1, .int th, .ref a3, .ref a5, .ref a7, .ref a9])), (a3, .inr (3, [.ref a4])), (a4, .inl (cJ, 4, .inr (.inl (fPut 4 g (nI k) (fAt 4 NS (nI k)))))), (a5, .inr (3, [.ref a6])), (a6, .inl (cJ, 4, .inr (.inl g2))), (a7, .inr (3, [.ref a8])), (a8, .inl (cJ, 4, .inr (.inl NS))), (a9, .inr (3, [.ref a10])), (a10, .inl (cJ, 4, .inr (.inl NN)))]) (As := [.int (nI k), .long (fAt 4 NS (nI k))]) (rest := []) ⟨hx, hb, hml, hown, hts⟩ (c_X4_put l D cJ a3 a4 4 (by decide) g (nI k) (fAt 4 NS (nI k))) (cwV 2 hts gX2_goOn_X4_put rfl rfl rfl (by decide +kernel) ⟨(Nat.le_of_ble_eq_true rfl), (Nat.le_of_ble_eq_true rfl)⟩) (va_recv hK hP (ci := 3) (q0 := 1) rfl rfl) rfl hl.1 (lv_room (Nat.le_of_ble_eq_true rfl)) dX2_goOn_172 ⟨(Nat.le_of_ble_eq_true rfl), (Nat.le_of_ble_eq_true rfl)⟩ hS hA rfl hK hP hD [1, 2] [0, 3, 4, 5, 6, 7, 8] [0, 7, 8, 1, 2, 3, 4, 5, 6] rfl rfl (by decide) rfl (by decide) (by decide) rfl rfl (by decide) (fun H locs hP hD hS => ?_)
      refine lv_aload_n hx hb dX2_goOn_175 rfl (lv_at hl 0 rfl) ?_
      refine va_get (D := D) (ci := 1) (v := .ref a5) (C := RX2) (T := TX2) (N := 6) hx hb hts (by decide +kernel) hown hK hP 0 rfl rfl 3 (by decide) (hts (.fieldLink RX2 27 "Shingletrack$Channel" "numbers" "LShingletrack$Row;") (by decide +kernel)) (fun _ h9 => h9) rfl dX2_goOn_176 ?_
      refine lv_iload_n hx hb dX2_goOn_179 rfl (lv_at hl 2 rfl) ?_
      refine lv_aload_n hx hb dX2_goOn_180 rfl (lv_at hl 0 rfl) ?_
      refine va_get (D := D) (ci := 1) (v := .ref a9) (C := RX2) (T := TX2) (N := 6) hx hb hts (by decide +kernel) hown hK hP 0 rfl rfl 5 (by decide) (hts (.fieldLink RX2 33 "Shingletrack$Channel" "nextNumbers" "LShingletrack$Row;") (by decide +kernel)) (fun _ h9 => h9) rfl dX2_goOn_181 ?_
      refine lv_iload_n hx hb dX2_goOn_184 rfl (lv_at hl 2 rfl) ?_
      refine ru_calll (As := [.int (nI k)]) (rest := [.int (nI k), .ref a5]) ⟨hx, hb, hml, hown, hts⟩ (c_X4_at l D cJ a9 a10 4 (by decide) NN (nI k)) (cwV 1 hts gX2_goOn_X4_at rfl rfl rfl (by decide +kernel) ⟨(Nat.le_of_ble_eq_true rfl), (Nat.le_of_ble_eq_true rfl)⟩) (va_recv hK hP (ci := 3) (q0 := 7) rfl rfl) rfl hl.1 (lv_room (Nat.le_of_ble_eq_true rfl)) dX2_goOn_185 ⟨(Nat.le_of_ble_eq_true rfl), (Nat.le_of_ble_eq_true rfl)⟩ hS hA rfl hK (hP.sub [7, 8] rfl) (fun locs hS => ?_)
      refine wu_callv (wr := [(c0, .inr (1, [.ref a1, .int th, .ref a3, .ref a5, .ref a7, .ref a9])), (a3, .inr (3, [.ref a4])), (a4, .inl (cJ, 4, .inr (.inl (fPut 4 g (nI k) (fAt 4 NS (nI k)))))), (a7, .inr (3, [.ref a8])), (a8, .inl (cJ, 4, .inr (.inl NS))), (a9, .inr (3, [.ref a10])), (a10, .inl (cJ, 4, .inr (.inl NN)))]) (wn := [(c0, .inr (1, [.ref a1, .int th, .ref a3, .ref a5, .ref a7, .ref a9])), (a3, .inr (3, [.ref a4])), (a4, .inl (cJ, 4, .inr (.inl (fPut 4 g (nI k) (fAt 4 NS (nI k)))))), (a5, .inr (3, [.ref a6])), (a6, .inl (cJ, 4, .inr (.inl (fPut 4 g2 (nI k) (fAt 4 NN (nI k)))))), (a7, .inr (3, [.ref a8])), (a8, .inl (cJ, 4, .inr (.inl NS))), (a9, .inr (3, [.ref a10])), (a10, .inl (cJ, 4, .inr (.inl NN)))]) (As := [.int (nI k), .long (fAt 4 NN (nI k))]) (rest := []) ⟨hx, hb, hml, hown, hts⟩ (c_X4_put l D cJ a5 a6 4 (by decide) g2 (nI k) (fAt 4 NN (nI k))) (cwV 2 hts gX2_goOn_X4_put rfl rfl rfl (by decide +kernel) ⟨(Nat.le_of_ble_eq_true rfl), (Nat.le_of_ble_eq_true rfl)⟩) (va_recv hK hP (ci := 3) (q0 := 3) rfl rfl) rfl hl.1 (lv_room (Nat.le_of_ble_eq_true rfl)) dX2_goOn_188 ⟨(Nat.le_of_ble_eq_true rfl), (Nat.le_of_ble_eq_true rfl)⟩ hS hA rfl hK hP hD [3, 4] [0, 1, 2, 5, 6, 7, 8] [0, 1, 2, 7, 8, 3, 4, 5, 6] rfl rfl (by decide) rfl (by decide) (by decide) rfl rfl (by decide) (fun H locs hP hD hS => ?_)
      refine lv_iinc (v := nI (k + 1)) (lv' := [(3, .int (nI (k + 1))), (0, .ref c0), (1, .long x)]) hx hb dX2_goOn_191 hl (k := 2) rfl (nI_1 _) (by decide) rfl (fun ls hl => ?_)
      refine lv_goto (tgt := 154) hx hb dX2_goOn_194 (by decide) ?_
      exact ih (k + 1) _ _ (by omega) hres_l3 _ _ ls hP hD hS (lv_sub hl [1, 2, 0] rfl)
  have l2 : ∀ (n k : Nat) (f1 : Nat → Int64) (f2 : Nat → Int64), k + n = 4 → kSt x sq nu n k f1 f2 = (NS, NN) → ∀ (H : Heap) (locs : List Loc) (ls : Array Slot), va_P D vwCl [(c0, .inr (1, [.ref a1, .int th, .ref a3, .ref a5, .ref a7, .ref a9])), (a3, .inr (3, [.ref a4])), (a4, .inl (cJ, 4, .inr (.inl sq))), (a5, .inr (3, [.ref a6])), (a6, .inl (cJ, 4, .inr (.inl nu))), (a7, .inr (3, [.ref a8])), (a8, .inl (cJ, 4, .inr (.inl f1))), (a9, .inr (3, [.ref a10])), (a10, .inl (cJ, 4, .inr (.inl f2)))] H → va_D (va_A [(c0, .inr (1, [.ref a1, .int th, .ref a3, .ref a5, .ref a7, .ref a9])), (a3, .inr (3, [.ref a4])), (a4, .inl (cJ, 4, .inr (.inl sq))), (a5, .inr (3, [.ref a6])), (a6, .inl (cJ, 4, .inr (.inl nu))), (a7, .inr (3, [.ref a8])), (a8, .inl (cJ, 4, .inr (.inl ns))), (a9, .inr (3, [.ref a10])), (a10, .inl (cJ, 4, .inr (.inl nn)))] s.heap.size) [(c0, .inr (1, [.ref a1, .int th, .ref a3, .ref a5, .ref a7, .ref a9])), (a3, .inr (3, [.ref a4])), (a4, .inl (cJ, 4, .inr (.inl sq))), (a5, .inr (3, [.ref a6])), (a6, .inl (cJ, 4, .inr (.inl nu))), (a7, .inr (3, [.ref a8])), (a8, .inl (cJ, 4, .inr (.inl f1))), (a9, .inr (3, [.ref a10])), (a10, .inl (cJ, 4, .inr (.inl f2)))] → va_S (va_A [(c0, .inr (1, [.ref a1, .int th, .ref a3, .ref a5, .ref a7, .ref a9])), (a3, .inr (3, [.ref a4])), (a4, .inl (cJ, 4, .inr (.inl sq))), (a5, .inr (3, [.ref a6])), (a6, .inl (cJ, 4, .inr (.inl nu))), (a7, .inr (3, [.ref a8])), (a8, .inl (cJ, 4, .inr (.inl ns))), (a9, .inr (3, [.ref a10])), (a10, .inl (cJ, 4, .inr (.inl nn)))] s.heap.size) s.heap H locs → lv_has ls 12 [(0, .ref c0), (1, .long x), (3, .int (nI k))] → W p l e (headSpec wsX2_goOn ({ frames := 1, cells := 0, slots := 0, locals := 27 } : Room)).room s m ([.ref c0, .long x] : List Value).toArray below meth c H locs 0 0 (MQ below (va_Qv (fun u : va_W => u = [(c0, .inr (1, [.ref a1, .int th, .ref a3, .ref a5, .ref a7, .ref a9])), (a3, .inr (3, [.ref a4])), (a4, .inl (cJ, 4, .inr (.inl (kCp NS 4 0 sq)))), (a5, .inr (3, [.ref a6])), (a6, .inl (cJ, 4, .inr (.inl (kCp NN 4 0 nu)))), (a7, .inr (3, [.ref a8])), (a8, .inl (cJ, 4, .inr (.inl NS))), (a9, .inr (3, [.ref a10])), (a10, .inl (cJ, 4, .inr (.inl NN)))]) (wPost D cJ [(c0, .inr (1, [.ref a1, .int th, .ref a3, .ref a5, .ref a7, .ref a9])), (a3, .inr (3, [.ref a4])), (a4, .inl (cJ, 4, .inr (.inl sq))), (a5, .inr (3, [.ref a6])), (a6, .inl (cJ, 4, .inr (.inl nu))), (a7, .inr (3, [.ref a8])), (a8, .inl (cJ, 4, .inr (.inl ns))), (a9, .inr (3, [.ref a10])), (a10, .inl (cJ, 4, .inr (.inl nn)))] s.heap.size) (va_A [(c0, .inr (1, [.ref a1, .int th, .ref a3, .ref a5, .ref a7, .ref a9])), (a3, .inr (3, [.ref a4])), (a4, .inl (cJ, 4, .inr (.inl sq))), (a5, .inr (3, [.ref a6])), (a6, .inl (cJ, 4, .inr (.inl nu))), (a7, .inr (3, [.ref a8])), (a8, .inl (cJ, 4, .inr (.inl ns))), (a9, .inr (3, [.ref a10])), (a10, .inl (cJ, 4, .inr (.inl nn)))] s.heap.size)) ([.ref c0, .long x] : List Value).toArray s 0 0 (va_A [(c0, .inr (1, [.ref a1, .int th, .ref a3, .ref a5, .ref a7, .ref a9])), (a3, .inr (3, [.ref a4])), (a4, .inl (cJ, 4, .inr (.inl sq))), (a5, .inr (3, [.ref a6])), (a6, .inl (cJ, 4, .inr (.inl nu))), (a7, .inr (3, [.ref a8])), (a8, .inl (cJ, 4, .inr (.inl ns))), (a9, .inr (3, [.ref a10])), (a10, .inl (cJ, 4, .inr (.inl nn)))] s.heap.size)) (F0 m 20 ls []) := by
    intro n
    induction n with
    | zero =>
      intro k f1 f2 hk_l2  hres_l2 H locs ls hP hD hS hl
      obtain rfl : k = 4 := by omega
      have e1 : f1 = NS := congrArg Prod.fst hres_l2
      have e2 : f2 = NN := congrArg Prod.snd hres_l2
      rw [e1, e2] at hP hD
      refine lv_iload_n hx hb dX2_goOn_20 rfl (lv_at hl 2 rfl) ?_
      refine lv_iconst (v := 4) hx hb dX2_goOn_21 (by decide) ?_
      refine lv_icmp_ge (tgt := 152) hx hb dX2_goOn_22 (by decide) (fun c_22 => ?_) (fun c_22 => absurd c_22 (by decide))
      refine lv_iconst (v := 0) hx hb dX2_goOn_152 (by decide) ?_
      refine lv_istore_n (lv' := [(3, .int 0), (0, .ref c0), (1, .long x)]) hx hb dX2_goOn_153 rfl hl (by decide) rfl (fun ls hl => ?_)
      exact l3 4 0 _ _ rfl ⟨rfl, rfl⟩ _ _ ls hP hD hS (lv_sub hl [1, 2, 0] rfl)
    | succ n ih =>
      intro k f1 f2 hk_l2  hres_l2 H locs ls hP hD hS hl
      have l1 : ∀ (n1 j : Nat) (f3 : Nat → Int64) (f4 : Nat → Int64), j + n1 = 2 → kIn x sq nu k n1 j f3 f4 = kIn x sq nu k 2 0 f1 f2 → ∀ (H : Heap) (locs : List Loc) (ls : Array Slot), va_P D vwCl [(c0, .inr (1, [.ref a1, .int th, .ref a3, .ref a5, .ref a7, .ref a9])), (a3, .inr (3, [.ref a4])), (a4, .inl (cJ, 4, .inr (.inl sq))), (a5, .inr (3, [.ref a6])), (a6, .inl (cJ, 4, .inr (.inl nu))), (a7, .inr (3, [.ref a8])), (a8, .inl (cJ, 4, .inr (.inl f3))), (a9, .inr (3, [.ref a10])), (a10, .inl (cJ, 4, .inr (.inl f4)))] H → va_D (va_A [(c0, .inr (1, [.ref a1, .int th, .ref a3, .ref a5, .ref a7, .ref a9])), (a3, .inr (3, [.ref a4])), (a4, .inl (cJ, 4, .inr (.inl sq))), (a5, .inr (3, [.ref a6])), (a6, .inl (cJ, 4, .inr (.inl nu))), (a7, .inr (3, [.ref a8])), (a8, .inl (cJ, 4, .inr (.inl ns))), (a9, .inr (3, [.ref a10])), (a10, .inl (cJ, 4, .inr (.inl nn)))] s.heap.size) [(c0, .inr (1, [.ref a1, .int th, .ref a3, .ref a5, .ref a7, .ref a9])), (a3, .inr (3, [.ref a4])), (a4, .inl (cJ, 4, .inr (.inl sq))), (a5, .inr (3, [.ref a6])), (a6, .inl (cJ, 4, .inr (.inl nu))), (a7, .inr (3, [.ref a8])), (a8, .inl (cJ, 4, .inr (.inl f3))), (a9, .inr (3, [.ref a10])), (a10, .inl (cJ, 4, .inr (.inl f4)))] → va_S (va_A [(c0, .inr (1, [.ref a1, .int th, .ref a3, .ref a5, .ref a7, .ref a9])), (a3, .inr (3, [.ref a4])), (a4, .inl (cJ, 4, .inr (.inl sq))), (a5, .inr (3, [.ref a6])), (a6, .inl (cJ, 4, .inr (.inl nu))), (a7, .inr (3, [.ref a8])), (a8, .inl (cJ, 4, .inr (.inl ns))), (a9, .inr (3, [.ref a10])), (a10, .inl (cJ, 4, .inr (.inl nn)))] s.heap.size) s.heap H locs → lv_has ls 12 [(0, .ref c0), (1, .long x), (3, .int (nI k)), (4, .int (nI j))] → W p l e (headSpec wsX2_goOn ({ frames := 1, cells := 0, slots := 0, locals := 27 } : Room)).room s m ([.ref c0, .long x] : List Value).toArray below meth c H locs 0 0 (MQ below (va_Qv (fun u : va_W => u = [(c0, .inr (1, [.ref a1, .int th, .ref a3, .ref a5, .ref a7, .ref a9])), (a3, .inr (3, [.ref a4])), (a4, .inl (cJ, 4, .inr (.inl (kCp NS 4 0 sq)))), (a5, .inr (3, [.ref a6])), (a6, .inl (cJ, 4, .inr (.inl (kCp NN 4 0 nu)))), (a7, .inr (3, [.ref a8])), (a8, .inl (cJ, 4, .inr (.inl NS))), (a9, .inr (3, [.ref a10])), (a10, .inl (cJ, 4, .inr (.inl NN)))]) (wPost D cJ [(c0, .inr (1, [.ref a1, .int th, .ref a3, .ref a5, .ref a7, .ref a9])), (a3, .inr (3, [.ref a4])), (a4, .inl (cJ, 4, .inr (.inl sq))), (a5, .inr (3, [.ref a6])), (a6, .inl (cJ, 4, .inr (.inl nu))), (a7, .inr (3, [.ref a8])), (a8, .inl (cJ, 4, .inr (.inl ns))), (a9, .inr (3, [.ref a10])), (a10, .inl (cJ, 4, .inr (.inl nn)))] s.heap.size) (va_A [(c0, .inr (1, [.ref a1, .int th, .ref a3, .ref a5, .ref a7, .ref a9])), (a3, .inr (3, [.ref a4])), (a4, .inl (cJ, 4, .inr (.inl sq))), (a5, .inr (3, [.ref a6])), (a6, .inl (cJ, 4, .inr (.inl nu))), (a7, .inr (3, [.ref a8])), (a8, .inl (cJ, 4, .inr (.inl ns))), (a9, .inr (3, [.ref a10])), (a10, .inl (cJ, 4, .inr (.inl nn)))] s.heap.size)) ([.ref c0, .long x] : List Value).toArray s 0 0 (va_A [(c0, .inr (1, [.ref a1, .int th, .ref a3, .ref a5, .ref a7, .ref a9])), (a3, .inr (3, [.ref a4])), (a4, .inl (cJ, 4, .inr (.inl sq))), (a5, .inr (3, [.ref a6])), (a6, .inl (cJ, 4, .inr (.inl nu))), (a7, .inr (3, [.ref a8])), (a8, .inl (cJ, 4, .inr (.inl ns))), (a9, .inr (3, [.ref a10])), (a10, .inl (cJ, 4, .inr (.inl nn)))] s.heap.size)) (F0 m 28 ls []) := by
        intro n1
        induction n1 with
        | zero =>
          intro j f3 f4 hk_l1  hres_l1 H locs ls hP hD hS hl
          obtain rfl : j = 2 := by omega
          refine lv_iload hx hb dX2_goOn_28 (lv_at hl 3 rfl) ?_
          refine lv_iconst (v := 2) hx hb dX2_goOn_30 (by decide) ?_
          refine lv_icmp_ge (tgt := 146) hx hb dX2_goOn_31 (by decide) (fun c_31 => ?_) (fun c_31 => absurd c_31 (by decide))
          refine lv_iinc (v := nI (k + 1)) (lv' := [(3, .int (nI (k + 1))), (0, .ref c0), (1, .long x), (4, .int (nI 2))]) hx hb dX2_goOn_146 hl (k := 2) rfl (nI_1 _) (by decide) rfl (fun ls hl => ?_)
          refine lv_goto (tgt := 20) hx hb dX2_goOn_149 (by decide) ?_
          exact ih (k + 1) _ _ (by omega) (by rw [kSt, ← hres_l1] at hres_l2; exact hres_l2) _ _ ls hP hD hS (lv_sub hl [1, 2, 0] rfl)
        | succ n1 ih1 =>
          intro j f3 f4 hk_l1  hres_l1 H locs ls hP hD hS hl
          refine lv_iload hx hb dX2_goOn_28 (lv_at hl 3 rfl) ?_
          refine lv_iconst (v := 2) hx hb dX2_goOn_30 (by decide) ?_
          refine lv_icmp_ge (tgt := 146) hx hb dX2_goOn_31 (by decide) (fun c_31 => absurd c_31 (nI_ge (a := j) (b := 2) (by omega) (by omega))) (fun c_31 => ?_)
          refine lv_lload_n hx hb dX2_goOn_34 rfl (lv_at hl 1 rfl) ?_
          refine lv_bipush (v := 10) hx hb dX2_goOn_35 (by decide) ?_
          refine lv_iload hx hb dX2_goOn_37 (lv_at hl 3 rfl) ?_
          refine lv_iload_n hx hb dX2_goOn_39 rfl (lv_at hl 2 rfl) ?_
          refine lv_iconst (v := 1) hx hb dX2_goOn_40 (by decide) ?_
          refine lv_ishr hx hb dX2_goOn_41 ?_
          refine lv_isub hx hb dX2_goOn_42 ?_
          refine lv_imul hx hb dX2_goOn_43 ?_
          refine lv_i2l hx hb dX2_goOn_44 rfl ?_
          refine lv_lsub hx hb dX2_goOn_45 ?_
          refine lv_lstore (lv' := [(5, .long (kOff x k j)), (0, .ref c0), (1, .long x), (3, .int (nI k)), (4, .int (nI j))]) hx hb dX2_goOn_46 hl (by decide) rfl (fun ls hl => ?_)
          refine lv_aload_n hx hb dX2_goOn_48 rfl (lv_at hl 1 rfl) ?_
          refine va_get (D := D) (ci := 1) (v := .ref a3) (C := RX2) (T := TX2) (N := 6) hx hb hts (by decide +kernel) hown hK hP 0 rfl rfl 2 (by decide) (hts (.fieldLink RX2 24 "Shingletrack$Channel" "squares" "LShingletrack$Row;") (by decide +kernel)) (fun _ h9 => h9) rfl dX2_goOn_49 ?_
          refine lv_iload_n hx hb dX2_goOn_52 rfl (lv_at hl 3 rfl) ?_
          refine ru_calll (As := [.int (nI k)]) (rest := []) ⟨hx, hb, hml, hown, hts⟩ (c_X4_at l D cJ a3 a4 4 (by decide) sq (nI k)) (cwV 1 hts gX2_goOn_X4_at rfl rfl rfl (by decide +kernel) ⟨(Nat.le_of_ble_eq_true rfl), (Nat.le_of_ble_eq_true rfl)⟩) (va_recv hK hP (ci := 3) (q0 := 1) rfl rfl) rfl hl.1 (lv_room (Nat.le_of_ble_eq_true rfl)) dX2_goOn_53 ⟨(Nat.le_of_ble_eq_true rfl), (Nat.le_of_ble_eq_true rfl)⟩ hS hA rfl hK (hP.sub [1, 2] rfl) (fun locs hS => ?_)
          refine lv_lload hx hb dX2_goOn_56 (lv_at hl 0 rfl) ?_
          refine lv_lload hx hb dX2_goOn_58 (lv_at hl 0 rfl) ?_
          refine lv_lmul hx hb dX2_goOn_60 ?_
          refine lv_ladd hx hb dX2_goOn_61 ?_
          refine lv_lstore (lv' := [(7, .long (kSq x sq k j)), (5, .long (kOff x k j)), (0, .ref c0), (1, .long x), (3, .int (nI k)), (4, .int (nI j))]) hx hb dX2_goOn_62 hl (by decide) rfl (fun ls hl => ?_)
          refine lv_aload_n hx hb dX2_goOn_64 rfl (lv_at hl 2 rfl) ?_
          refine va_get (D := D) (ci := 1) (v := .ref a5) (C := RX2) (T := TX2) (N := 6) hx hb hts (by decide +kernel) hown hK hP 0 rfl rfl 3 (by decide) (hts (.fieldLink RX2 27 "Shingletrack$Channel" "numbers" "LShingletrack$Row;") (by decide +kernel)) (fun _ h9 => h9) rfl dX2_goOn_65 ?_
          refine lv_iload_n hx hb dX2_goOn_68 rfl (lv_at hl 4 rfl) ?_
          refine ru_calll (As := [.int (nI k)]) (rest := []) ⟨hx, hb, hml, hown, hts⟩ (c_X4_at l D cJ a5 a6 4 (by decide) nu (nI k)) (cwV 1 hts gX2_goOn_X4_at rfl rfl rfl (by decide +kernel) ⟨(Nat.le_of_ble_eq_true rfl), (Nat.le_of_ble_eq_true rfl)⟩) (va_recv hK hP (ci := 3) (q0 := 3) rfl rfl) rfl hl.1 (lv_room (Nat.le_of_ble_eq_true rfl)) dX2_goOn_69 ⟨(Nat.le_of_ble_eq_true rfl), (Nat.le_of_ble_eq_true rfl)⟩ hS hA rfl hK (hP.sub [3, 4] rfl) (fun locs hS => ?_)
          refine lv_iconst (v := 1) hx hb dX2_goOn_72 (by decide) ?_
          refine lv_lshl hx hb dX2_goOn_73 rfl ?_
          refine lv_iload hx hb dX2_goOn_74 (lv_at hl 5 rfl) ?_
          refine lv_i2l hx hb dX2_goOn_76 rfl ?_
          refine lv_lor hx hb dX2_goOn_77 ?_
          refine lv_lstore (lv' := [(9, .long (kNu nu k j)), (7, .long (kSq x sq k j)), (5, .long (kOff x k j)), (0, .ref c0), (1, .long x), (3, .int (nI k)), (4, .int (nI j))]) hx hb dX2_goOn_78 hl (by decide) rfl (fun ls hl => ?_)
          refine lv_iload_n hx hb dX2_goOn_80 rfl (lv_at hl 5 rfl) ?_
          refine lv_iconst (v := 1) hx hb dX2_goOn_81 (by decide) ?_
          refine lv_iand hx hb dX2_goOn_82 ?_
          refine lv_iconst (v := 1) hx hb dX2_goOn_83 (by decide) ?_
          refine lv_ishl hx hb dX2_goOn_84 ?_
          refine lv_iload hx hb dX2_goOn_85 (lv_at hl 6 rfl) ?_
          refine lv_ior hx hb dX2_goOn_87 ?_
          refine lv_istore (lv' := [(11, .int (kNx k j)), (9, .long (kNu nu k j)), (7, .long (kSq x sq k j)), (5, .long (kOff x k j)), (0, .ref c0), (1, .long x), (3, .int (nI k)), (4, .int (nI j))]) hx hb dX2_goOn_88 hl (by decide) rfl (fun ls hl => ?_)
          refine lv_lload hx hb dX2_goOn_90 (lv_at hl 2 rfl) ?_
          refine lv_lload hx hb dX2_goOn_92 (lv_at hl 1 rfl) ?_
          refine lv_aload_n hx hb dX2_goOn_94 rfl (lv_at hl 4 rfl) ?_
          refine va_get (D := D) (ci := 1) (v := .ref a7) (C := RX2) (T := TX2) (N := 6) hx hb hts (by decide +kernel) hown hK hP 0 rfl rfl 4 (by decide) (hts (.fieldLink RX2 30 "Shingletrack$Channel" "nextSquares" "LShingletrack$Row;") (by decide +kernel)) (fun _ h9 => h9) rfl dX2_goOn_95 ?_
          refine lv_iload hx hb dX2_goOn_98 (lv_at hl 0 rfl) ?_
          refine ru_calll (As := [.int (kNx k j)]) (rest := [.long (kNu nu k j), .long (kSq x sq k j)]) ⟨hx, hb, hml, hown, hts⟩ (c_X4_at l D cJ a7 a8 4 (by decide) f3 (kNx k j)) (cwV 1 hts gX2_goOn_X4_at rfl rfl rfl (by decide +kernel) ⟨(Nat.le_of_ble_eq_true rfl), (Nat.le_of_ble_eq_true rfl)⟩) (va_recv hK hP (ci := 3) (q0 := 5) rfl rfl) rfl hl.1 (lv_room (Nat.le_of_ble_eq_true rfl)) dX2_goOn_100 ⟨(Nat.le_of_ble_eq_true rfl), (Nat.le_of_ble_eq_true rfl)⟩ hS hA rfl hK (hP.sub [5, 6] rfl) (fun locs hS => ?_)
          refine lv_aload_n hx hb dX2_goOn_103 rfl (lv_at hl 4 rfl) ?_
          refine va_get (D := D) (ci := 1) (v := .ref a9) (C := RX2) (T := TX2) (N := 6) hx hb hts (by decide +kernel) hown hK hP 0 rfl rfl 5 (by decide) (hts (.fieldLink RX2 33 "Shingletrack$Channel" "nextNumbers" "LShingletrack$Row;") (by decide +kernel)) (fun _ h9 => h9) rfl dX2_goOn_104 ?_
          refine lv_iload hx hb dX2_goOn_107 (lv_at hl 0 rfl) ?_
          refine ru_calll (As := [.int (kNx k j)]) (rest := [.long (fAt 4 f3 (kNx k j)), .long (kNu nu k j), .long (kSq x sq k j)]) ⟨hx, hb, hml, hown, hts⟩ (c_X4_at l D cJ a9 a10 4 (by decide) f4 (kNx k j)) (cwV 1 hts gX2_goOn_X4_at rfl rfl rfl (by decide +kernel) ⟨(Nat.le_of_ble_eq_true rfl), (Nat.le_of_ble_eq_true rfl)⟩) (va_recv hK hP (ci := 3) (q0 := 7) rfl rfl) rfl hl.1 (lv_room (Nat.le_of_ble_eq_true rfl)) dX2_goOn_109 ⟨(Nat.le_of_ble_eq_true rfl), (Nat.le_of_ble_eq_true rfl)⟩ hS hA rfl hK (hP.sub [7, 8] rfl) (fun locs hS => ?_)
          refine pu_calli (As := [.long (kSq x sq k j), .long (kNu nu k j), .long (fAt 4 f3 (kNx k j)), .long (fAt 4 f4 (kNx k j))]) (rest := []) ⟨hx, hb, hml, hown, hts⟩ (c_X2_isBetter l (kSq x sq k j) (kNu nu k j) (fAt 4 f3 (kNx k j)) (fAt 4 f4 (kNx k j))) (va_cwS 4 hts gX2_goOn_X2_isBetter rfl rfl rfl (by decide +kernel) ⟨(Nat.le_of_ble_eq_true rfl), (Nat.le_of_ble_eq_true rfl)⟩) rfl hl.1 (lv_room (Nat.le_of_ble_eq_true rfl)) dX2_goOn_112 ⟨Nat.zero_le _, Nat.zero_le _⟩ hS hA rfl (fun locs hS => ?_)
          refine lv_if_eq (tgt := 140) hx hb dX2_goOn_115 (by decide) (fun c_115 => ?_) (fun c_115 => ?_)
          · refine lv_iinc (v := nI (j + 1)) (lv' := [(4, .int (nI (j + 1))), (11, .int (kNx k j)), (9, .long (kNu nu k j)), (7, .long (kSq x sq k j)), (5, .long (kOff x k j)), (0, .ref c0), (1, .long x), (3, .int (nI k))]) hx hb dX2_goOn_140 hl (k := 7) rfl (nI_1 _) (by decide) rfl (fun ls hl => ?_)
            refine lv_goto (tgt := 28) hx hb dX2_goOn_143 (by decide) ?_
            exact ih1 (j + 1) _ _ (by omega) (by rw [kIn, if_pos (show fBetter (kSq x sq k j) (kNu nu k j) (fAt 4 f3 (kNx k j)) (fAt 4 f4 (kNx k j)) = 0 from c_115)] at hres_l1; exact hres_l1) _ _ ls hP hD hS (lv_sub hl [5, 6, 7, 0] rfl)
          · refine lv_aload_n hx hb dX2_goOn_118 rfl (lv_at hl 4 rfl) ?_
            refine va_get (D := D) (ci := 1) (v := .ref a7) (C := RX2) (T := TX2) (N := 6) hx hb hts (by decide +kernel) hown hK hP 0 rfl rfl 4 (by decide) (hts (.fieldLink RX2 30 "Shingletrack$Channel" "nextSquares" "LShingletrack$Row;") (by decide +kernel)) (fun _ h9 => h9) rfl dX2_goOn_119 ?_
            refine lv_iload hx hb dX2_goOn_122 (lv_at hl 0 rfl) ?_
            refine lv_lload hx hb dX2_goOn_124 (lv_at hl 2 rfl) ?_
            refine wu_callv (wr := [(c0, .inr (1, [.ref a1, .int th, .ref a3, .ref a5, .ref a7, .ref a9])), (a3, .inr (3, [.ref a4])), (a4, .inl (cJ, 4, .inr (.inl sq))), (a5, .inr (3, [.ref a6])), (a6, .inl (cJ, 4, .inr (.inl nu))), (a9, .inr (3, [.ref a10])), (a10, .inl (cJ, 4, .inr (.inl f4)))]) (wn := [(c0, .inr (1, [.ref a1, .int th, .ref a3, .ref a5, .ref a7, .ref a9])), (a3, .inr (3, [.ref a4])), (a4, .inl (cJ, 4, .inr (.inl sq))), (a5, .inr (3, [.ref a6])), (a6, .inl (cJ, 4, .inr (.inl nu))), (a7, .inr (3, [.ref a8])), (a8, .inl (cJ, 4, .inr (.inl (fPut 4 f3 (kNx k j) (kSq x sq k j))))), (a9, .inr (3, [.ref a10])), (a10, .inl (cJ, 4, .inr (.inl f4)))]) (As := [.int (kNx k j), .long (kSq x sq k j)]) (rest := []) ⟨hx, hb, hml, hown, hts⟩ (c_X4_put l D cJ a7 a8 4 (by decide) f3 (kNx k j) (kSq x sq k j)) (cwV 2 hts gX2_goOn_X4_put rfl rfl rfl (by decide +kernel) ⟨(Nat.le_of_ble_eq_true rfl), (Nat.le_of_ble_eq_true rfl)⟩) (va_recv hK hP (ci := 3) (q0 := 5) rfl rfl) rfl hl.1 (lv_room (Nat.le_of_ble_eq_true rfl)) dX2_goOn_126 ⟨(Nat.le_of_ble_eq_true rfl), (Nat.le_of_ble_eq_true rfl)⟩ hS hA rfl hK hP hD [5, 6] [0, 1, 2, 3, 4, 7, 8] [0, 1, 2, 3, 4, 7, 8, 5, 6] rfl rfl (by decide) rfl (by decide) (by decide) rfl rfl (by decide) (fun H locs hP hD hS => ?_)
            refine lv_aload_n hx hb dX2_goOn_129 rfl (lv_at hl 4 rfl) ?_
            refine va_get (D := D) (ci := 1) (v := .ref a9) (C := RX2) (T := TX2) (N := 6) hx hb hts (by decide +kernel) hown hK hP 0 rfl rfl 5 (by decide) (hts (.fieldLink RX2 33 "Shingletrack$Channel" "nextNumbers" "LShingletrack$Row;") (by decide +kernel)) (fun _ h9 => h9) rfl dX2_goOn_130 ?_
            refine lv_iload hx hb dX2_goOn_133 (lv_at hl 0 rfl) ?_
            refine lv_lload hx hb dX2_goOn_135 (lv_at hl 1 rfl) ?_
            refine wu_callv (wr := [(c0, .inr (1, [.ref a1, .int th, .ref a3, .ref a5, .ref a7, .ref a9])), (a3, .inr (3, [.ref a4])), (a4, .inl (cJ, 4, .inr (.inl sq))), (a5, .inr (3, [.ref a6])), (a6, .inl (cJ, 4, .inr (.inl nu))), (a7, .inr (3, [.ref a8])), (a8, .inl (cJ, 4, .inr (.inl (fPut 4 f3 (kNx k j) (kSq x sq k j)))))]) (wn := [(c0, .inr (1, [.ref a1, .int th, .ref a3, .ref a5, .ref a7, .ref a9])), (a3, .inr (3, [.ref a4])), (a4, .inl (cJ, 4, .inr (.inl sq))), (a5, .inr (3, [.ref a6])), (a6, .inl (cJ, 4, .inr (.inl nu))), (a7, .inr (3, [.ref a8])), (a8, .inl (cJ, 4, .inr (.inl (fPut 4 f3 (kNx k j) (kSq x sq k j))))), (a9, .inr (3, [.ref a10])), (a10, .inl (cJ, 4, .inr (.inl (fPut 4 f4 (kNx k j) (kNu nu k j)))))]) (As := [.int (kNx k j), .long (kNu nu k j)]) (rest := []) ⟨hx, hb, hml, hown, hts⟩ (c_X4_put l D cJ a9 a10 4 (by decide) f4 (kNx k j) (kNu nu k j)) (cwV 2 hts gX2_goOn_X4_put rfl rfl rfl (by decide +kernel) ⟨(Nat.le_of_ble_eq_true rfl), (Nat.le_of_ble_eq_true rfl)⟩) (va_recv hK hP (ci := 3) (q0 := 7) rfl rfl) rfl hl.1 (lv_room (Nat.le_of_ble_eq_true rfl)) dX2_goOn_137 ⟨(Nat.le_of_ble_eq_true rfl), (Nat.le_of_ble_eq_true rfl)⟩ hS hA rfl hK hP hD [7, 8] [0, 1, 2, 3, 4, 5, 6] [0, 1, 2, 3, 4, 5, 6, 7, 8] rfl rfl (by decide) rfl (by decide) (by decide) rfl rfl (by decide) (fun H locs hP hD hS => ?_)
            refine lv_iinc (v := nI (j + 1)) (lv' := [(4, .int (nI (j + 1))), (11, .int (kNx k j)), (9, .long (kNu nu k j)), (7, .long (kSq x sq k j)), (5, .long (kOff x k j)), (0, .ref c0), (1, .long x), (3, .int (nI k))]) hx hb dX2_goOn_140 hl (k := 7) rfl (nI_1 _) (by decide) rfl (fun ls hl => ?_)
            refine lv_goto (tgt := 28) hx hb dX2_goOn_143 (by decide) ?_
            exact ih1 (j + 1) _ _ (by omega) (by rw [kIn, if_neg (show ¬ fBetter (kSq x sq k j) (kNu nu k j) (fAt 4 f3 (kNx k j)) (fAt 4 f4 (kNx k j)) = 0 from c_115)] at hres_l1; exact hres_l1) _ _ ls hP hD hS (lv_sub hl [5, 6, 7, 0] rfl)
      refine lv_iload_n hx hb dX2_goOn_20 rfl (lv_at hl 2 rfl) ?_
      refine lv_iconst (v := 4) hx hb dX2_goOn_21 (by decide) ?_
      refine lv_icmp_ge (tgt := 152) hx hb dX2_goOn_22 (by decide) (fun c_22 => absurd c_22 (nI_ge (a := k) (b := 4) (by omega) (by omega))) (fun c_22 => ?_)
      refine lv_iconst (v := 0) hx hb dX2_goOn_25 (by decide) ?_
      refine lv_istore (lv' := [(4, .int 0), (0, .ref c0), (1, .long x), (3, .int (nI k))]) hx hb dX2_goOn_26 hl (by decide) rfl (fun ls hl => ?_)
      exact l1 2 0 _ _ rfl rfl _ _ ls hP hD hS (lv_sub hl [1, 2, 3, 0] rfl)
  refine lv_aload_n hx hb dX2_goOn_0 rfl (lv_at hl 0 rfl) ?_
  refine va_get (D := D) (ci := 1) (v := .ref a7) (C := RX2) (T := TX2) (N := 6) hx hb hts (by decide +kernel) hown hK hP 0 rfl rfl 4 (by decide) (hts (.fieldLink RX2 30 "Shingletrack$Channel" "nextSquares" "LShingletrack$Row;") (by decide +kernel)) (fun _ h9 => h9) rfl dX2_goOn_1 ?_
  refine lv_ldc2 (v := 1000000) hx hb hown (hts (.constantLong RX2 40 1000000) (by decide +kernel)) dX2_goOn_4 ?_
  refine wu_callv (wr := [(c0, .inr (1, [.ref a1, .int th, .ref a3, .ref a5, .ref a7, .ref a9])), (a3, .inr (3, [.ref a4])), (a4, .inl (cJ, 4, .inr (.inl sq))), (a5, .inr (3, [.ref a6])), (a6, .inl (cJ, 4, .inr (.inl nu))), (a9, .inr (3, [.ref a10])), (a10, .inl (cJ, 4, .inr (.inl nn)))]) (wn := [(c0, .inr (1, [.ref a1, .int th, .ref a3, .ref a5, .ref a7, .ref a9])), (a3, .inr (3, [.ref a4])), (a4, .inl (cJ, 4, .inr (.inl sq))), (a5, .inr (3, [.ref a6])), (a6, .inl (cJ, 4, .inr (.inl nu))), (a7, .inr (3, [.ref a8])), (a8, .inl (cJ, 4, .inr (.inl (fFil ns 1000000 4)))), (a9, .inr (3, [.ref a10])), (a10, .inl (cJ, 4, .inr (.inl nn)))]) (As := [.long 1000000]) (rest := []) ⟨hx, hb, hml, hown, hts⟩ (c_X4_fill l D cJ a7 a8 4 (by decide) ns 1000000) (cwV 1 hts gX2_goOn_X4_fill rfl rfl rfl (by decide +kernel) ⟨(Nat.le_of_ble_eq_true rfl), (Nat.le_of_ble_eq_true rfl)⟩) (va_recv hK hP (ci := 3) (q0 := 5) rfl rfl) rfl hl.1 (lv_room (Nat.le_of_ble_eq_true rfl)) dX2_goOn_7 ⟨(Nat.le_of_ble_eq_true rfl), (Nat.le_of_ble_eq_true rfl)⟩ hS hA rfl hK hP hD [5, 6] [0, 1, 2, 3, 4, 7, 8] [0, 1, 2, 3, 4, 7, 8, 5, 6] rfl rfl (by decide) rfl (by decide) (by decide) rfl rfl (by decide) (fun H locs hP hD hS => ?_)
  refine lv_aload_n hx hb dX2_goOn_10 rfl (lv_at hl 0 rfl) ?_
  refine va_get (D := D) (ci := 1) (v := .ref a9) (C := RX2) (T := TX2) (N := 6) hx hb hts (by decide +kernel) hown hK hP 0 rfl rfl 5 (by decide) (hts (.fieldLink RX2 33 "Shingletrack$Channel" "nextNumbers" "LShingletrack$Row;") (by decide +kernel)) (fun _ h9 => h9) rfl dX2_goOn_11 ?_
  refine lv_lconst (v := 0) hx hb dX2_goOn_14 (by decide) ?_
  refine wu_callv (wr := [(c0, .inr (1, [.ref a1, .int th, .ref a3, .ref a5, .ref a7, .ref a9])), (a3, .inr (3, [.ref a4])), (a4, .inl (cJ, 4, .inr (.inl sq))), (a5, .inr (3, [.ref a6])), (a6, .inl (cJ, 4, .inr (.inl nu))), (a7, .inr (3, [.ref a8])), (a8, .inl (cJ, 4, .inr (.inl (fFil ns 1000000 4))))]) (wn := [(c0, .inr (1, [.ref a1, .int th, .ref a3, .ref a5, .ref a7, .ref a9])), (a3, .inr (3, [.ref a4])), (a4, .inl (cJ, 4, .inr (.inl sq))), (a5, .inr (3, [.ref a6])), (a6, .inl (cJ, 4, .inr (.inl nu))), (a7, .inr (3, [.ref a8])), (a8, .inl (cJ, 4, .inr (.inl (fFil ns 1000000 4)))), (a9, .inr (3, [.ref a10])), (a10, .inl (cJ, 4, .inr (.inl (fFil nn 0 4))))]) (As := [.long 0]) (rest := []) ⟨hx, hb, hml, hown, hts⟩ (c_X4_fill l D cJ a9 a10 4 (by decide) nn 0) (cwV 1 hts gX2_goOn_X4_fill rfl rfl rfl (by decide +kernel) ⟨(Nat.le_of_ble_eq_true rfl), (Nat.le_of_ble_eq_true rfl)⟩) (va_recv hK hP (ci := 3) (q0 := 7) rfl rfl) rfl hl.1 (lv_room (Nat.le_of_ble_eq_true rfl)) dX2_goOn_15 ⟨(Nat.le_of_ble_eq_true rfl), (Nat.le_of_ble_eq_true rfl)⟩ hS hA rfl hK hP hD [7, 8] [0, 1, 2, 3, 4, 5, 6] [0, 1, 2, 3, 4, 5, 6, 7, 8] rfl rfl (by decide) rfl (by decide) (by decide) rfl rfl (by decide) (fun H locs hP hD hS => ?_)
  refine lv_iconst (v := 0) hx hb dX2_goOn_18 (by decide) ?_
  refine lv_istore_n (lv' := [(3, .int 0), (0, .ref c0), (1, .long x)]) hx hb dX2_goOn_19 rfl hl (by decide) rfl (fun ls hl => ?_)
  exact l2 4 0 _ _ rfl hN _ _ ls hP hD hS (lv_sub hl [1, 2, 0] rfl)
