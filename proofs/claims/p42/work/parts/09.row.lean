/-! Row: its array a of n numbers f -/
def fAt (n : Nat) (f : Nat → Int64) (i : Int32) : Int64 := if ¬ i < 0 ∧ ¬ nI n ≤ i then f i.toNatClampNeg else 0
def fPut (n : Nat) (f : Nat → Int64) (i : Int32) (x : Int64) : Nat → Int64 := if ¬ i < 0 ∧ ¬ nI n ≤ i then vp_updL f i.toNatClampNeg x else f
def fFil (f : Nat → Int64) (v : Int64) (k : Nat) : Nat → Int64 := fun j => if j < k then v else f j
theorem fFil_succ (f : Nat → Int64) (v : Int64) {k : Nat} (h : k < 2 ^ 31) : vp_updL (fFil f v k) (nI k).toNatClampNeg v = fFil f v (k + 1) := by
  funext j
  rw [nI_clamp h]
  simp only [vp_updL, fFil]
  by_cases h1 : j = k
  · subst h1; rw [if_pos rfl, if_pos (by omega)]
  · rw [if_neg h1]
    by_cases h2 : j < k
    · rw [if_pos h2, if_pos (by omega)]
    · rw [if_neg h2, if_neg (by omega)]
theorem fFil_0 (f : Nat → Int64) (v : Int64) : fFil f v 0 = f := by
  funext j
  simp [fFil]
theorem in_row {i : Int32} {n : Nat} (hn : n < 2 ^ 31) (h0 : ¬ i < 0) (h1 : ¬ nI n ≤ i) : vp_in i n := by
  rw [vp_in_iff]
  rw [Int32.lt_iff_toInt_lt, Int32.toInt_zero] at h0
  rw [Int32.le_iff_toInt_le, nI_toInt hn] at h1
  omega
theorem fAt_in {n : Nat} (f : Nat → Int64) {k : Nat} (hk : k < n) (hn : n < 2 ^ 31) : fAt n f (nI k) = f k := by
  rw [fAt, if_pos ⟨nI_pos (by omega), nI_ge hk hn⟩, nI_clamp (by omega)]
theorem fPut_in {n : Nat} (f : Nat → Int64) {k : Nat} (x : Int64) (hk : k < n) (hn : n < 2 ^ 31) : fPut n f (nI k) x = vp_updL f k x := by
  rw [fPut, if_pos ⟨nI_pos (by omega), nI_ge hk hn⟩, nI_clamp (by omega)]
set_option maxHeartbeats 4000000 in
set_option maxRecDepth 100000 in
theorem c_X4_at (l : Launch) (D : va_G) (cJ : ClassId) (h0 a n : Nat) (hn : n < 2 ^ 31) (f : Nat → Int64) (i : Int32) : rc_l l yX4_at wsX4_at ({ frames := 0, cells := 0, slots := 0, locals := 0 } : Room) [.ref h0, .int i] D cJ [(h0, .inr (3, [.ref a])), (a, .inl (cJ, n, .inr (.inl f)))] (fAt n f i) := by
  intro H0
  refine Met.ofW (cc := cX4_at) (maxL := 2) (ret := (some .long)) (by decide) rfl ?_
  intro p e s m args below meth c s₁ B hml hv
  obtain ⟨rfl, rfl, hP, hK⟩ := hv
  have hx := B.exec
  have hb := B.bytes
  have hr := B.returns
  have hts := atoms_spec (ws := wsX4_at) B.pre
  have hown : s.vm.findClass RX4 = some m.cls := findClass_of_methodNamed B.named
  have hlocks := B.notSynchronized
  have hS : va_S (fun q => s.heap.size ≤ q) s.heap s.heap [] := va_S.rf
  have hA : ∀ q : Nat, s.heap.size ≤ q → (fun q : Nat => s.heap.size ≤ q) q := fun _ h => h
  have hl := lv_entry ([.ref h0, .int i]) (n := 2) (Nat.le_of_ble_eq_true rfl)
  rw [lg_entry_eq]
  generalize (lg_sl ([.ref h0, .int i]) ++ List.replicate (2 - (lg_sl ([.ref h0, .int i])).length) Slot.unset).toArray = ls at hl ⊢
  have hl : lv_has ls 2 [(0, .ref h0), (1, .int i)] := hl
  refine lv_iload_n hx hb dX4_at_0 rfl (lv_at hl 1 rfl) ?_
  refine lv_if_lt (tgt := 22) hx hb dX4_at_1 (by decide) (fun c_1 => ?_) (fun c_1 => ?_)
  · refine lv_lconst (v := 0) hx hb dX4_at_22 (by decide) ?_
    exact W.lret (v := 0) hx hb hr (fun t ht hW => ⟨⟨0, (), rfl, (if_neg (fun h => h.1 c_1)).symm, ht⟩, hS.F ht⟩) hS.2.2 dX4_at_23
  · refine lv_iload_n hx hb dX4_at_4 rfl (lv_at hl 1 rfl) ?_
    refine lv_aload_n hx hb dX4_at_5 rfl (lv_at hl 0 rfl) ?_
    refine va_get (D := D) (ci := 3) (v := .ref a) (C := RX4) (T := TX4) (N := 1) hx hb hts (by decide +kernel) hown hK hP 0 rfl rfl 0 (by decide) (hts (.fieldLink RX4 7 "Shingletrack$Row" "numbers" "[J") (by decide +kernel)) (fun _ h9 => h9) rfl dX4_at_6 ?_
    refine va_alen hx hb hK hP 1 0 rfl (ty := .long) rfl (v := nI n) rfl dX4_at_9 ?_
    refine lv_icmp_ge (tgt := 22) hx hb dX4_at_10 (by decide) (fun c_10 => ?_) (fun c_10 => ?_)
    · refine lv_lconst (v := 0) hx hb dX4_at_22 (by decide) ?_
      exact W.lret (v := 0) hx hb hr (fun t ht hW => ⟨⟨0, (), rfl, (if_neg (fun h => h.2 c_10)).symm, ht⟩, hS.F ht⟩) hS.2.2 dX4_at_23
    · refine lv_aload_n hx hb dX4_at_13 rfl (lv_at hl 0 rfl) ?_
      refine va_get (D := D) (ci := 3) (v := .ref a) (C := RX4) (T := TX4) (N := 1) hx hb hts (by decide +kernel) hown hK hP 0 rfl rfl 0 (by decide) (hts (.fieldLink RX4 7 "Shingletrack$Row" "numbers" "[J") (by decide +kernel)) (fun _ h9 => h9) rfl dX4_at_14 ?_
      refine lv_iload_n hx hb dX4_at_17 rfl (lv_at hl 1 rfl) ?_
      refine va_lald (cA := cJ) (n := n) (f := f) hx hb hK hP 1 0 rfl rfl (in_row hn c_1 c_10) dX4_at_18 ?_
      refine lv_goto (tgt := 23) hx hb dX4_at_19 (by decide) ?_
      exact W.lret (v := f i.toNatClampNeg) hx hb hr (fun t ht hW => ⟨⟨f i.toNatClampNeg, (), rfl, (if_pos ⟨c_1, c_10⟩).symm, ht⟩, hS.F ht⟩) hS.2.2 dX4_at_23
set_option maxHeartbeats 4000000 in
set_option maxRecDepth 100000 in
theorem c_X4_intAt (l : Launch) (D : va_G) (cJ : ClassId) (h0 a n : Nat) (hn : n < 2 ^ 31) (f : Nat → Int64) (i : Int32) : rc_i l yX4_intAt wsX4_intAt ({ frames := 1, cells := 0, slots := 0, locals := 21 } : Room) [.ref h0, .int i] D cJ [(h0, .inr (3, [.ref a])), (a, .inl (cJ, n, .inr (.inl f)))] (fAt n f i).toInt32 := by
  intro H0
  refine Met.ofW (cc := cX4_intAt) (maxL := 2) (ret := (some .int)) (by decide) rfl ?_
  intro p e s m args below meth c s₁ B hml hv
  obtain ⟨rfl, rfl, hP, hK⟩ := hv
  have hx := B.exec
  have hb := B.bytes
  have hr := B.returns
  have hts := atoms_spec (ws := wsX4_intAt) B.pre
  have hown : s.vm.findClass RX4 = some m.cls := findClass_of_methodNamed B.named
  have hlocks := B.notSynchronized
  have hS : va_S (fun q => s.heap.size ≤ q) s.heap s.heap [] := va_S.rf
  have hA : ∀ q : Nat, s.heap.size ≤ q → (fun q : Nat => s.heap.size ≤ q) q := fun _ h => h
  have hl := lv_entry ([.ref h0, .int i]) (n := 2) (Nat.le_of_ble_eq_true rfl)
  rw [lg_entry_eq]
  generalize (lg_sl ([.ref h0, .int i]) ++ List.replicate (2 - (lg_sl ([.ref h0, .int i])).length) Slot.unset).toArray = ls at hl ⊢
  have hl : lv_has ls 2 [(0, .ref h0), (1, .int i)] := hl
  refine lv_aload_n hx hb dX4_intAt_0 rfl (lv_at hl 0 rfl) ?_
  refine lv_iload_n hx hb dX4_intAt_1 rfl (lv_at hl 1 rfl) ?_
  refine ru_calll (As := [.int i]) (rest := []) ⟨hx, hb, hml, hown, hts⟩ (c_X4_at l D cJ h0 a n hn f i) (cwV 1 hts gX4_intAt_X4_at rfl rfl rfl (by decide +kernel) ⟨(Nat.le_of_ble_eq_true rfl), (Nat.le_of_ble_eq_true rfl)⟩) (va_recv hK hP (ci := 3) (q0 := 0) rfl rfl) rfl hl.1 (lv_room (Nat.le_of_ble_eq_true rfl)) dX4_intAt_2 ⟨(Nat.le_of_ble_eq_true rfl), (Nat.le_of_ble_eq_true rfl)⟩ hS hA rfl hK (hP.sub [0, 1] rfl) (fun locs hS => ?_)
  refine lv_l2i hx hb dX4_intAt_5 rfl ?_
  exact W.iret (v := (fAt n f i).toInt32) hx hb hr (fun t ht hW => ⟨⟨(fAt n f i).toInt32, (), rfl, rfl, ht⟩, hS.F ht⟩) hS.2.2 dX4_intAt_6
set_option maxHeartbeats 4000000 in
set_option maxRecDepth 100000 in
theorem c_X4_isSet (l : Launch) (D : va_G) (cJ : ClassId) (h0 a n : Nat) (hn : n < 2 ^ 31) (f : Nat → Int64) (i : Int32) : rc_i l yX4_isSet wsX4_isSet ({ frames := 1, cells := 0, slots := 0, locals := 21 } : Room) [.ref h0, .int i] D cJ [(h0, .inr (3, [.ref a])), (a, .inl (cJ, n, .inr (.inl f)))] (if fAt n f i = 0 then 0 else 1) := by
  intro H0
  refine Met.ofW (cc := cX4_isSet) (maxL := 2) (ret := (some .boolean)) (by decide) rfl ?_
  intro p e s m args below meth c s₁ B hml hv
  obtain ⟨rfl, rfl, hP, hK⟩ := hv
  have hx := B.exec
  have hb := B.bytes
  have hr := B.returns
  have hts := atoms_spec (ws := wsX4_isSet) B.pre
  have hown : s.vm.findClass RX4 = some m.cls := findClass_of_methodNamed B.named
  have hlocks := B.notSynchronized
  have hS : va_S (fun q => s.heap.size ≤ q) s.heap s.heap [] := va_S.rf
  have hA : ∀ q : Nat, s.heap.size ≤ q → (fun q : Nat => s.heap.size ≤ q) q := fun _ h => h
  have hl := lv_entry ([.ref h0, .int i]) (n := 2) (Nat.le_of_ble_eq_true rfl)
  rw [lg_entry_eq]
  generalize (lg_sl ([.ref h0, .int i]) ++ List.replicate (2 - (lg_sl ([.ref h0, .int i])).length) Slot.unset).toArray = ls at hl ⊢
  have hl : lv_has ls 2 [(0, .ref h0), (1, .int i)] := hl
  refine lv_aload_n hx hb dX4_isSet_0 rfl (lv_at hl 0 rfl) ?_
  refine lv_iload_n hx hb dX4_isSet_1 rfl (lv_at hl 1 rfl) ?_
  refine ru_calll (As := [.int i]) (rest := []) ⟨hx, hb, hml, hown, hts⟩ (c_X4_at l D cJ h0 a n hn f i) (cwV 1 hts gX4_isSet_X4_at rfl rfl rfl (by decide +kernel) ⟨(Nat.le_of_ble_eq_true rfl), (Nat.le_of_ble_eq_true rfl)⟩) (va_recv hK hP (ci := 3) (q0 := 0) rfl rfl) rfl hl.1 (lv_room (Nat.le_of_ble_eq_true rfl)) dX4_isSet_2 ⟨(Nat.le_of_ble_eq_true rfl), (Nat.le_of_ble_eq_true rfl)⟩ hS hA rfl hK (hP.sub [0, 1] rfl) (fun locs hS => ?_)
  refine lv_lconst (v := 0) hx hb dX4_isSet_5 (by decide) ?_
  refine W.lcmp hx hb dX4_isSet_6 ?_
  refine lv_if_eq (tgt := 14) hx hb dX4_isSet_7 (by decide) (fun c_7 => ?_) (fun c_7 => ?_)
  · refine lv_iconst (v := 0) hx hb dX4_isSet_14 (by decide) ?_
    exact W.zret (v := 0) hx hb hr (by first | rfl | decide) (fun t ht hW => ⟨⟨0, (), rfl, (if_pos ((lg_cmp_eq _ _).mp c_7)).symm, ht⟩, hS.F ht⟩) hS.2.2 dX4_isSet_15
  · refine lv_iconst (v := 1) hx hb dX4_isSet_10 (by decide) ?_
    refine lv_goto (tgt := 15) hx hb dX4_isSet_11 (by decide) ?_
    exact W.zret (v := 1) hx hb hr (by first | rfl | decide) (fun t ht hW => ⟨⟨1, (), rfl, (if_neg (fun h => c_7 ((lg_cmp_eq _ _).mpr h))).symm, ht⟩, hS.F ht⟩) hS.2.2 dX4_isSet_15
set_option maxHeartbeats 4000000 in
set_option maxRecDepth 100000 in
theorem c_X4_put (l : Launch) (D : va_G) (cJ : ClassId) (h0 a n : Nat) (hn : n < 2 ^ 31) (f : Nat → Int64) (i : Int32) (x : Int64) : wc_v l yX4_put wsX4_put ({ frames := 0, cells := 0, slots := 0, locals := 0 } : Room) [.ref h0, .int i, .long x] D cJ [(h0, .inr (3, [.ref a])), (a, .inl (cJ, n, .inr (.inl f)))] [(h0, .inr (3, [.ref a])), (a, .inl (cJ, n, .inr (.inl (fPut n f i x))))] := by
  intro sz
  refine Met.ofW (cc := cX4_put) (maxL := 4) (ret := none) (by decide) rfl ?_
  intro p e s m args below meth c s₁ B hml hv
  obtain ⟨rfl, rfl, hP, hK, hD0⟩ := hv
  have hx := B.exec
  have hb := B.bytes
  have hr := B.returns
  have hts := atoms_spec (ws := wsX4_put) B.pre
  have hown : s.vm.findClass RX4 = some m.cls := findClass_of_methodNamed B.named
  have hlocks := B.notSynchronized
  have hS : va_S (va_A [(h0, .inr (3, [.ref a])), (a, .inl (cJ, n, .inr (.inl f)))] s.heap.size) s.heap s.heap [] := va_S.rf
  have hD := hD0.self (sz := s.heap.size)
  have hA : ∀ q : Nat, s.heap.size ≤ q → (va_A [(h0, .inr (3, [.ref a])), (a, .inl (cJ, n, .inr (.inl f)))] s.heap.size) q := fun _ h => Or.inr h
  have hl := lv_entry ([.ref h0, .int i, .long x]) (n := 4) (Nat.le_of_ble_eq_true rfl)
  rw [lg_entry_eq]
  generalize (lg_sl ([.ref h0, .int i, .long x]) ++ List.replicate (4 - (lg_sl ([.ref h0, .int i, .long x])).length) Slot.unset).toArray = ls at hl ⊢
  have hl : lv_has ls 4 [(0, .ref h0), (1, .int i), (2, .long x)] := hl
  have hP : va_P D vwCl [(h0, .inr (3, [.ref a])), (a, .inl (cJ, n, .inr (.inl f)))] s.heap := hP
  refine lv_iload_n hx hb dX4_put_0 rfl (lv_at hl 1 rfl) ?_
  refine lv_if_lt (tgt := 20) hx hb dX4_put_1 (by decide) (fun c_1 => ?_) (fun c_1 => ?_)
  · exact W.vret hx hb hr (fun t ht hW => ⟨⟨[(h0, .inr (3, [.ref a])), (a, .inl (cJ, n, .inr (.inl f)))], rfl, (by rw [fPut, if_neg (fun h => h.1 c_1)]), (by rw [ht]; exact hP), va_K.moved hW.alike hK, hD⟩, hS.F ht⟩) hS.2.2 dX4_put_20
  · refine lv_iload_n hx hb dX4_put_4 rfl (lv_at hl 1 rfl) ?_
    refine lv_aload_n hx hb dX4_put_5 rfl (lv_at hl 0 rfl) ?_
    refine va_get (D := D) (ci := 3) (v := .ref a) (C := RX4) (T := TX4) (N := 1) hx hb hts (by decide +kernel) hown hK hP 0 rfl rfl 0 (by decide) (hts (.fieldLink RX4 7 "Shingletrack$Row" "numbers" "[J") (by decide +kernel)) (fun _ h9 => h9) rfl dX4_put_6 ?_
    refine va_alen hx hb hK hP 1 0 rfl (ty := .long) rfl (v := nI n) rfl dX4_put_9 ?_
    refine lv_icmp_ge (tgt := 20) hx hb dX4_put_10 (by decide) (fun c_10 => ?_) (fun c_10 => ?_)
    · exact W.vret hx hb hr (fun t ht hW => ⟨⟨[(h0, .inr (3, [.ref a])), (a, .inl (cJ, n, .inr (.inl f)))], rfl, (by rw [fPut, if_neg (fun h => h.2 c_10)]), (by rw [ht]; exact hP), va_K.moved hW.alike hK, hD⟩, hS.F ht⟩) hS.2.2 dX4_put_20
    · refine lv_aload_n hx hb dX4_put_13 rfl (lv_at hl 0 rfl) ?_
      refine va_get (D := D) (ci := 3) (v := .ref a) (C := RX4) (T := TX4) (N := 1) hx hb hts (by decide +kernel) hown hK hP 0 rfl rfl 0 (by decide) (hts (.fieldLink RX4 7 "Shingletrack$Row" "numbers" "[J") (by decide +kernel)) (fun _ h9 => h9) rfl dX4_put_14 ?_
      refine lv_iload_n hx hb dX4_put_17 rfl (lv_at hl 1 rfl) ?_
      refine lv_lload_n hx hb dX4_put_18 rfl (lv_at hl 2 rfl) ?_
      refine va_last (cA := cJ) (n := n) (f := f) (x := x) hx hb hK hP hD hS 1 0 rfl rfl (in_row hn c_1 c_10) dX4_put_19 (fun H locs hP hD hS => ?_)
      have hP : va_P D vwCl [(h0, .inr (3, [.ref a])), (a, .inl (cJ, n, .inr (.inl (vp_updL f i.toNatClampNeg x))))] H := hP
      have hD : va_D (va_A [(h0, .inr (3, [.ref a])), (a, .inl (cJ, n, .inr (.inl f)))] s.heap.size) [(h0, .inr (3, [.ref a])), (a, .inl (cJ, n, .inr (.inl (vp_updL f i.toNatClampNeg x))))] := hD
      exact W.vret hx hb hr (fun t ht hW => ⟨⟨[(h0, .inr (3, [.ref a])), (a, .inl (cJ, n, .inr (.inl (vp_updL f i.toNatClampNeg x))))], rfl, (by rw [fPut, if_pos ⟨c_1, c_10⟩]), (by rw [ht]; exact hP), va_K.moved hW.alike hK, hD⟩, hS.F ht⟩) hS.2.2 dX4_put_20
set_option maxHeartbeats 4000000 in
set_option maxRecDepth 100000 in
theorem c_X4_fill (l : Launch) (D : va_G) (cJ : ClassId) (h0 a n : Nat) (hn : n < 2 ^ 31) (f : Nat → Int64) (v : Int64) : wc_v l yX4_fill wsX4_fill ({ frames := 0, cells := 0, slots := 0, locals := 0 } : Room) [.ref h0, .long v] D cJ [(h0, .inr (3, [.ref a])), (a, .inl (cJ, n, .inr (.inl f)))] [(h0, .inr (3, [.ref a])), (a, .inl (cJ, n, .inr (.inl (fFil f v n))))] := by
  intro sz
  refine Met.ofW (cc := cX4_fill) (maxL := 4) (ret := none) (by decide) rfl ?_
  intro p e s m args below meth c s₁ B hml hv
  obtain ⟨rfl, rfl, hP, hK, hD0⟩ := hv
  have hx := B.exec
  have hb := B.bytes
  have hr := B.returns
  have hts := atoms_spec (ws := wsX4_fill) B.pre
  have hown : s.vm.findClass RX4 = some m.cls := findClass_of_methodNamed B.named
  have hlocks := B.notSynchronized
  have hS : va_S (va_A [(h0, .inr (3, [.ref a])), (a, .inl (cJ, n, .inr (.inl f)))] s.heap.size) s.heap s.heap [] := va_S.rf
  have hD := hD0.self (sz := s.heap.size)
  have hA : ∀ q : Nat, s.heap.size ≤ q → (va_A [(h0, .inr (3, [.ref a])), (a, .inl (cJ, n, .inr (.inl f)))] s.heap.size) q := fun _ h => Or.inr h
  have hl := lv_entry ([.ref h0, .long v]) (n := 4) (Nat.le_of_ble_eq_true rfl)
  rw [lg_entry_eq]
  generalize (lg_sl ([.ref h0, .long v]) ++ List.replicate (4 - (lg_sl ([.ref h0, .long v])).length) Slot.unset).toArray = ls at hl ⊢
  have hl : lv_has ls 4 [(0, .ref h0), (1, .long v)] := hl
  have hP : va_P D vwCl [(h0, .inr (3, [.ref a])), (a, .inl (cJ, n, .inr (.inl f)))] s.heap := hP
  have l1 : ∀ (nn k : Nat) , k + nn = n → ∀ (H : Heap) (locs : List Loc) (ls : Array Slot), va_P D vwCl [(h0, .inr (3, [.ref a])), (a, .inl (cJ, n, .inr (.inl (fFil f v k))))] H → va_D (va_A [(h0, .inr (3, [.ref a])), (a, .inl (cJ, n, .inr (.inl f)))] s.heap.size) [(h0, .inr (3, [.ref a])), (a, .inl (cJ, n, .inr (.inl (fFil f v k))))] → va_S (va_A [(h0, .inr (3, [.ref a])), (a, .inl (cJ, n, .inr (.inl f)))] s.heap.size) s.heap H locs → lv_has ls 4 [(0, .ref h0), (1, .long v), (3, .int (nI k))] → W p l e (headSpec wsX4_fill ({ frames := 0, cells := 0, slots := 0, locals := 0 } : Room)).room s m ([.ref h0, .long v] : List Value).toArray below meth c H locs 0 0 (MQ below (va_Qv (fun u : va_W => u = [(h0, .inr (3, [.ref a])), (a, .inl (cJ, n, .inr (.inl (fFil f v n))))]) (wPost D cJ [(h0, .inr (3, [.ref a])), (a, .inl (cJ, n, .inr (.inl f)))] s.heap.size) (va_A [(h0, .inr (3, [.ref a])), (a, .inl (cJ, n, .inr (.inl f)))] s.heap.size)) ([.ref h0, .long v] : List Value).toArray s 0 0 (va_A [(h0, .inr (3, [.ref a])), (a, .inl (cJ, n, .inr (.inl f)))] s.heap.size)) (F0 m 2 ls []) := by
    intro nn
    induction nn with
    | zero =>
      intro k  hk_l1   H locs ls hP hD hS hl
      obtain rfl : n = k := by omega
      refine lv_iload_n hx hb dX4_fill_2 rfl (lv_at hl 2 rfl) ?_
      refine lv_aload_n hx hb dX4_fill_3 rfl (lv_at hl 0 rfl) ?_
      refine va_get (D := D) (ci := 3) (v := .ref a) (C := RX4) (T := TX4) (N := 1) hx hb hts (by decide +kernel) hown hK hP 0 rfl rfl 0 (by decide) (hts (.fieldLink RX4 7 "Shingletrack$Row" "numbers" "[J") (by decide +kernel)) (fun _ h9 => h9) rfl dX4_fill_4 ?_
      refine va_alen hx hb hK hP 1 0 rfl (ty := .long) rfl (v := nI n) rfl dX4_fill_7 ?_
      refine lv_icmp_ge (tgt := 24) hx hb dX4_fill_8 (by decide) (fun c_8 => ?_) (fun c_8 => absurd c_8 (fun h => h (Int32.le_refl _)))
      exact W.vret hx hb hr (fun t ht hW => ⟨⟨[(h0, .inr (3, [.ref a])), (a, .inl (cJ, n, .inr (.inl (fFil f v n))))], rfl, rfl, (by rw [ht]; exact hP), va_K.moved hW.alike hK, hD⟩, hS.F ht⟩) hS.2.2 dX4_fill_24
    | succ nn ih =>
      intro k  hk_l1   H locs ls hP hD hS hl
      refine lv_iload_n hx hb dX4_fill_2 rfl (lv_at hl 2 rfl) ?_
      refine lv_aload_n hx hb dX4_fill_3 rfl (lv_at hl 0 rfl) ?_
      refine va_get (D := D) (ci := 3) (v := .ref a) (C := RX4) (T := TX4) (N := 1) hx hb hts (by decide +kernel) hown hK hP 0 rfl rfl 0 (by decide) (hts (.fieldLink RX4 7 "Shingletrack$Row" "numbers" "[J") (by decide +kernel)) (fun _ h9 => h9) rfl dX4_fill_4 ?_
      refine va_alen hx hb hK hP 1 0 rfl (ty := .long) rfl (v := nI n) rfl dX4_fill_7 ?_
      refine lv_icmp_ge (tgt := 24) hx hb dX4_fill_8 (by decide) (fun c_8 => absurd c_8 (nI_ge (a := k) (b := n) (by omega) (by omega))) (fun c_8 => ?_)
      refine lv_aload_n hx hb dX4_fill_11 rfl (lv_at hl 0 rfl) ?_
      refine va_get (D := D) (ci := 3) (v := .ref a) (C := RX4) (T := TX4) (N := 1) hx hb hts (by decide +kernel) hown hK hP 0 rfl rfl 0 (by decide) (hts (.fieldLink RX4 7 "Shingletrack$Row" "numbers" "[J") (by decide +kernel)) (fun _ h9 => h9) rfl dX4_fill_12 ?_
      refine lv_iload_n hx hb dX4_fill_15 rfl (lv_at hl 2 rfl) ?_
      refine lv_lload_n hx hb dX4_fill_16 rfl (lv_at hl 1 rfl) ?_
      refine va_last (cA := cJ) (n := n) (f := fFil f v k) (x := v) hx hb hK hP hD hS 1 0 rfl rfl (vp_in_nI (by omega) (by omega)) dX4_fill_17 (fun H locs hP hD hS => ?_)
      have hP : va_P D vwCl [(h0, .inr (3, [.ref a])), (a, .inl (cJ, n, .inr (.inl (vp_updL (fFil f v k) ((nI k).toNatClampNeg) v))))] H := hP
      have hD : va_D (va_A [(h0, .inr (3, [.ref a])), (a, .inl (cJ, n, .inr (.inl f)))] s.heap.size) [(h0, .inr (3, [.ref a])), (a, .inl (cJ, n, .inr (.inl (vp_updL (fFil f v k) ((nI k).toNatClampNeg) v))))] := hD
      refine lv_iinc (v := nI (k + 1)) (lv' := [(3, .int (nI (k + 1))), (0, .ref h0), (1, .long v)]) hx hb dX4_fill_18 hl (k := 2) rfl (nI_1 _) (by decide) rfl (fun ls hl => ?_)
      refine lv_goto (tgt := 2) hx hb dX4_fill_21 (by decide) ?_
      rw [fFil_succ f v (by omega)] at hP hD
      exact ih (k + 1) (by omega) _ _ ls hP hD hS (lv_sub hl [1, 2, 0] rfl)
  have hP : va_P D vwCl [(h0, .inr (3, [.ref a])), (a, .inl (cJ, n, .inr (.inl (fFil f v 0))))] s.heap := by rw [fFil_0]; exact hP
  have hD : va_D (va_A [(h0, .inr (3, [.ref a])), (a, .inl (cJ, n, .inr (.inl f)))] s.heap.size) [(h0, .inr (3, [.ref a])), (a, .inl (cJ, n, .inr (.inl (fFil f v 0))))] := by rw [fFil_0]; exact hD
  refine lv_iconst (v := 0) hx hb dX4_fill_0 (by decide) ?_
  refine lv_istore_n (lv' := [(3, .int 0), (0, .ref h0), (1, .long v)]) hx hb dX4_fill_1 rfl hl (by decide) rfl (fun ls hl => ?_)
  exact l1 n 0 (Nat.zero_add n) _ _ ls hP hD hS (lv_sub hl [1, 2, 0] rfl)
set_option maxHeartbeats 4000000 in
set_option maxRecDepth 100000 in
theorem c_X4_init (l : Launch) (D : va_G) (cJ : ClassId) (h0 n : Nat) (hn : n ≤ 1000) : nc l yX4_init wsX4_init ({ frames := 1, cells := 1, slots := n, locals := 12 } : Room) [.ref h0, .int (nI n)] D cJ [(h0, .inr (3, [.null]))] (fun u => ∃ a : Nat, u = [(h0, .inr (3, [.ref a])), (a, .inl (cJ, n, .inr (.inl (fun _ => 0))))]) 1 n := by
  intro sz
  refine Met.ofW (cc := cX4_init) (maxL := 2) (ret := none) (by decide) rfl ?_
  intro p e s m args below meth c s₁ B hml hv
  obtain ⟨rfl, rfl, hP, hK, hD0⟩ := hv
  have hx := B.exec
  have hb := B.bytes
  have hr := B.returns
  have hts := atoms_spec (ws := wsX4_init) B.pre
  have hown : s.vm.findClass RX4 = some m.cls := findClass_of_methodNamed B.named
  have hlocks := B.notSynchronized
  have hin : meth.name = "<init>" := (name_of_methodNamed B.named B.method).1
  have hS : va_S (va_A [(h0, .inr (3, [.null]))] s.heap.size) s.heap s.heap [] := va_S.rf
  have hD := hD0.self (sz := s.heap.size)
  have hA : ∀ q : Nat, s.heap.size ≤ q → (va_A [(h0, .inr (3, [.null]))] s.heap.size) q := fun _ h => Or.inr h
  have hl := lv_entry ([.ref h0, .int (nI n)]) (n := 2) (Nat.le_of_ble_eq_true rfl)
  rw [lg_entry_eq]
  generalize (lg_sl ([.ref h0, .int (nI n)]) ++ List.replicate (2 - (lg_sl ([.ref h0, .int (nI n)])).length) Slot.unset).toArray = ls at hl ⊢
  have hl : lv_has ls 2 [(0, .ref h0), (1, .int (nI n))] := hl
  have hP : va_P D vwCl [(h0, .inr (3, [.null]))] s.heap := hP
  refine lv_aload_n hx hb dX4_init_0 rfl (lv_at hl 0 rfl) ?_
  refine W.objInit hx hb hown (hts (.methodLink RX4 1 objectInit) (by decide +kernel)) (hts (.instanceMethod objectInit) (by decide +kernel)) (hts _ (List.mem_of_getElem? (i := 3) rfl)) rfl (by rw [hml]; exact hl.1) rfl dX4_init_1 (Nat.le_of_ble_eq_true rfl) (Nat.le_of_ble_eq_true rfl) ?_
  refine W.eq (g2 := F0 m 4 ls []) rfl ?_
  refine lv_aload_n hx hb dX4_init_4 rfl (lv_at hl 0 rfl) ?_
  refine lv_iload_n hx hb dX4_init_5 rfl (lv_at hl 1 rfl) ?_
  refine lv_if_ge (tgt := 13) hx hb dX4_init_6 (by decide) (fun c_6 => ?_) (fun c_6 => absurd c_6 (fun h => h (nI_pos' (by omega))))
  refine lv_iload_n hx hb dX4_init_13 rfl (lv_at hl 1 rfl) ?_
  refine va_newa (atype := .long) (ty := .long) hx hb (hts (.arrayClass .long) (by decide +kernel)) rfl hK hP hD hS hA (N' := n) (a0 := (n, .inr (.inl (fun _ => 0)))) (fun cA => rfl) (nI_pos (by omega)) (nI_clamp (by omega)) (by show n * 8 ≤ _; omega) (Nat.le_of_ble_eq_true rfl) (by show 0 + n ≤ n; omega) dX4_init_14 (fun q14 cA H hK2 hP hD hS => ?_)
  obtain rfl := cJ_one hK2
  refine W.widen (k := 1) (n := n) (by omega) (by omega) ?_
  have hP : va_P D vwCl [(h0, .inr (3, [.null])), (q14, .inl (cA, n, .inr (.inl (fun _ => 0))))] H := hP
  have hD : va_D (va_A [(h0, .inr (3, [.null]))] s.heap.size) [(h0, .inr (3, [.null])), (q14, .inl (cA, n, .inr (.inl (fun _ => 0))))] := hD
  refine va_putF (D := D) (ci := 3) (v := .ref q14) (ty := .array .long) (C := RX4) (T := TX4) (N := 1) hx hb hts (by decide +kernel) tyX4 tyX4_ok nmX4 hown hK hP hD hS 0 rfl rfl 0 (by decide) (hts (.fieldLink RX4 7 "Shingletrack$Row" "numbers" "[J") (by decide +kernel)) (fun _ h9 => h9) rfl hin rfl (by decide +kernel) rfl rfl (Nat.le_of_ble_eq_true rfl) dX4_init_16 (fun H locs hP hD hS => ?_)
  have hP : va_P D vwCl [(h0, .inr (3, [.ref q14])), (q14, .inl (cA, n, .inr (.inl (fun _ => 0))))] H := hP
  have hD : va_D (va_A [(h0, .inr (3, [.null]))] s.heap.size) [(h0, .inr (3, [.ref q14])), (q14, .inl (cA, n, .inr (.inl (fun _ => 0))))] := hD
  exact W.vret hx hb hr (fun t ht hW => ⟨⟨_, rfl, ⟨q14, rfl⟩, (by rw [ht]; exact hP), va_K.moved hW.alike hK, hD⟩, hS.F ht⟩) hS.2.2 dX4_init_19
