set_option maxHeartbeats 4000000 in
set_option maxRecDepth 100000 in
theorem c_X8_checkRange (l : Launch) (n lo hi : Int64) (h1 : ¬ n < lo) (h2 : ¬ hi < n) : pc_v l yX8_checkRange wsX8_checkRange ({ frames := 0, cells := 0, slots := 0, locals := 0 } : Room) [.long n, .long lo, .long hi] () := by
  intro H0
  refine Met.ofW (cc := cX8_checkRange) (maxL := 6) (ret := none) (by decide) rfl ?_
  intro p e s m args below meth c s₁ B hml hv
  obtain ⟨rfl, rfl⟩ := hv
  have hx := B.exec
  have hb := B.bytes
  have hr := B.returns
  have hts := atoms_spec (ws := wsX8_checkRange) B.pre
  have hown : s.vm.findClass RX8 = some m.cls := findClass_of_methodNamed B.named
  have hlocks := B.notSynchronized
  have hS : va_S (fun q => s.heap.size ≤ q) s.heap s.heap [] := va_S.rf
  have hA : ∀ q : Nat, s.heap.size ≤ q → (fun q : Nat => s.heap.size ≤ q) q := fun _ h => h
  have hl := lv_entry ([.long n, .long lo, .long hi]) (n := 6) (Nat.le_of_ble_eq_true rfl)
  rw [lg_entry_eq]
  generalize (lg_sl ([.long n, .long lo, .long hi]) ++ List.replicate (6 - (lg_sl ([.long n, .long lo, .long hi])).length) Slot.unset).toArray = ls at hl ⊢
  have hl : lv_has ls 6 [(0, .long n), (2, .long lo), (4, .long hi)] := hl
  refine lv_lload_n hx hb dX8_checkRange_0 rfl (lv_at hl 0 rfl) ?_
  refine lv_lload_n hx hb dX8_checkRange_1 rfl (lv_at hl 1 rfl) ?_
  refine W.lcmp hx hb dX8_checkRange_2 ?_
  refine lv_if_lt (tgt := 13) hx hb dX8_checkRange_3 (by decide) (fun c_3 => absurd c_3 (fun h => h1 ((lg_cmp_lt _ _).mp h))) (fun c_3 => ?_)
  refine lv_lload_n hx hb dX8_checkRange_6 rfl (lv_at hl 0 rfl) ?_
  refine lv_lload hx hb dX8_checkRange_7 (lv_at hl 2 rfl) ?_
  refine W.lcmp hx hb dX8_checkRange_9 ?_
  refine lv_if_le (tgt := 21) hx hb dX8_checkRange_10 (by decide) (fun c_10 => ?_) (fun c_10 => absurd c_10 (fun h => h ((lg_cmp_le _ _).mpr (Int64.not_lt.mp h2))))
  exact W.vret hx hb hr (fun t ht hW => ⟨⟨(), rfl, trivial, ht⟩, hS.F ht⟩) hS.2.2 dX8_checkRange_21
set_option maxHeartbeats 4000000 in
set_option maxRecDepth 100000 in
theorem x_X8_checkRange (l : Launch) (hstk : l.stackTraces = false) (n lo hi : Int64) (h : n < lo ∨ hi < n) : px_v l yX8_checkRange wsX8_checkRange ({ frames := 6, cells := 1, slots := 6, locals := 81 } : Room) [.long n, .long lo, .long hi] "java/lang/IllegalArgumentException" := by
  intro H0
  refine vx_ofW (cc := cX8_checkRange) (maxL := 6) (ret := none) (by decide) rfl ?_
  intro p e s m args below meth c s₁ B hml ht hv
  obtain ⟨rfl, rfl, hX⟩ := hv
  have hx := B.exec
  have hb := B.bytes
  have hr := B.returns
  have hts := atoms_spec (ws := wsX8_checkRange) B.pre
  have hown : s.vm.findClass RX8 = some m.cls := findClass_of_methodNamed B.named
  have hlocks := B.notSynchronized
  have hS : va_S (xA s) s.heap s.heap [] := va_S.rf
  have hA : ∀ q : Nat, s.heap.size ≤ q → xA s q := fun _ h => h
  have hl := lv_entry ([.long n, .long lo, .long hi]) (n := 6) (Nat.le_of_ble_eq_true rfl)
  rw [lg_entry_eq]
  generalize (lg_sl ([.long n, .long lo, .long hi]) ++ List.replicate (6 - (lg_sl ([.long n, .long lo, .long hi])).length) Slot.unset).toArray = ls at hl ⊢
  have hl : lv_has ls 6 [(0, .long n), (2, .long lo), (4, .long hi)] := hl
  refine lv_lload_n hx hb dX8_checkRange_0 rfl (lv_at hl 0 rfl) ?_
  refine lv_lload_n hx hb dX8_checkRange_1 rfl (lv_at hl 1 rfl) ?_
  refine W.lcmp hx hb dX8_checkRange_2 ?_
  refine lv_if_lt (tgt := 13) hx hb dX8_checkRange_3 (by decide) (fun c_3 => ?_) (fun c_3 => ?_)
  · exact vx_throw0 (own := RX8) (cls := "java/lang/IllegalArgumentException") (names := xNames) (ik := 238) (ic := 240) (A := xA s) hx hb hstk hown (by decide) (by decide) (hts (.classLink RX8 238 "java/lang/IllegalArgumentException") (by decide +kernel)) (hts (.initialized "java/lang/IllegalArgumentException") (by decide +kernel)) (vx_hat (fun w hw => hts w (List.mem_cons_of_mem _ (List.mem_append_right _ hw))) xB_IAE (xK_B hX)) xgood_IAE hX.2.1 hX.2.2 hS (by rw [hml]; exact hl.1) dX8_checkRange_13 dX8_checkRange_16 dX8_checkRange_17 dX8_checkRange_20 (fun x hx => (ht x hx).elim) (Nat.le_of_ble_eq_true rfl) (Nat.le_of_ble_eq_true rfl) (Nat.le_of_ble_eq_true rfl) (Nat.le_of_ble_eq_true rfl) hlocks (fun t ha hz hk => ⟨(), trivial, rfl, hz, fun q h1 _ => hk q h1⟩) hS.2.2 (Nat.le_of_ble_eq_true rfl) (Nat.le_of_ble_eq_true rfl)
  · refine lv_lload_n hx hb dX8_checkRange_6 rfl (lv_at hl 0 rfl) ?_
    refine lv_lload hx hb dX8_checkRange_7 (lv_at hl 2 rfl) ?_
    refine W.lcmp hx hb dX8_checkRange_9 ?_
    refine lv_if_le (tgt := 21) hx hb dX8_checkRange_10 (by decide) (fun c_10 => absurd c_10 (fun h10 => h.elim (fun z => c_3 ((lg_cmp_lt _ _).mpr z)) (fun z => absurd z (Int64.not_lt.mpr ((lg_cmp_le _ _).mp h10))))) (fun c_10 => ?_)
    exact vx_throw0 (own := RX8) (cls := "java/lang/IllegalArgumentException") (names := xNames) (ik := 238) (ic := 240) (A := xA s) hx hb hstk hown (by decide) (by decide) (hts (.classLink RX8 238 "java/lang/IllegalArgumentException") (by decide +kernel)) (hts (.initialized "java/lang/IllegalArgumentException") (by decide +kernel)) (vx_hat (fun w hw => hts w (List.mem_cons_of_mem _ (List.mem_append_right _ hw))) xB_IAE (xK_B hX)) xgood_IAE hX.2.1 hX.2.2 hS (by rw [hml]; exact hl.1) dX8_checkRange_13 dX8_checkRange_16 dX8_checkRange_17 dX8_checkRange_20 (fun x hx => (ht x hx).elim) (Nat.le_of_ble_eq_true rfl) (Nat.le_of_ble_eq_true rfl) (Nat.le_of_ble_eq_true rfl) (Nat.le_of_ble_eq_true rfl) hlocks (fun t ha hz hk => ⟨(), trivial, rfl, hz, fun q h1 _ => hk q h1⟩) hS.2.2 (Nat.le_of_ble_eq_true rfl) (Nat.le_of_ble_eq_true rfl)
set_option maxHeartbeats 4000000 in
set_option maxRecDepth 100000 in
theorem c_X8_word (l : Launch) (o : Nat) (v : Int32) (h1 : ¬ v.toInt64 < 0) (h2 : ¬ 65535 < v.toInt64) : pc_l l yX8_word wsX8_word ({ frames := 4, cells := 0, slots := 0, locals := 99 } : Room) [.ref o, .int v] (fOf v) := by
  intro H0
  refine Met.ofW (cc := cX8_word) (maxL := 2) (ret := (some .long)) (by decide) rfl ?_
  intro p e s m args below meth c s₁ B hml hv
  obtain ⟨rfl, rfl⟩ := hv
  have hx := B.exec
  have hb := B.bytes
  have hr := B.returns
  have hts := atoms_spec (ws := wsX8_word) B.pre
  have hown : s.vm.findClass RX8 = some m.cls := findClass_of_methodNamed B.named
  have hlocks := B.notSynchronized
  have hS : va_S (fun q => s.heap.size ≤ q) s.heap s.heap [] := va_S.rf
  have hA : ∀ q : Nat, s.heap.size ≤ q → (fun q : Nat => s.heap.size ≤ q) q := fun _ h => h
  have hl := lv_entry ([.ref o, .int v]) (n := 2) (Nat.le_of_ble_eq_true rfl)
  rw [lg_entry_eq]
  generalize (lg_sl ([.ref o, .int v]) ++ List.replicate (2 - (lg_sl ([.ref o, .int v])).length) Slot.unset).toArray = ls at hl ⊢
  have hl : lv_has ls 2 [(0, .ref o), (1, .int v)] := hl
  refine lv_iload_n hx hb dX8_word_0 rfl (lv_at hl 1 rfl) ?_
  refine lv_i2l hx hb dX8_word_1 rfl ?_
  refine lv_lconst (v := 0) hx hb dX8_word_2 (by decide) ?_
  refine lv_ldc2 (v := 65535) hx hb hown (hts (.constantLong RX8 51 65535) (by decide +kernel)) dX8_word_3 ?_
  refine pu_callv (As := [.long v.toInt64, .long 0, .long 65535]) (rest := []) ⟨hx, hb, hml, hown, hts⟩ (c_X8_checkRange l v.toInt64 0 65535 h1 h2) (va_cwS 3 hts gX8_word_X8_checkRange rfl rfl rfl (by decide +kernel) ⟨(Nat.le_of_ble_eq_true rfl), (Nat.le_of_ble_eq_true rfl)⟩) rfl hl.1 (lv_room (Nat.le_of_ble_eq_true rfl)) dX8_word_6 ⟨Nat.zero_le _, Nat.zero_le _⟩ hS hA rfl (fun locs hS => ?_)
  refine lv_iload_n hx hb dX8_word_9 rfl (lv_at hl 1 rfl) ?_
  refine pu_calll (As := [.int v]) (rest := []) ⟨hx, hb, hml, hown, hts⟩ (c_X7_of l v) (va_cwS 1 hts gX8_word_X7_of rfl rfl rfl (by decide +kernel) ⟨(Nat.le_of_ble_eq_true rfl), (Nat.le_of_ble_eq_true rfl)⟩) rfl hl.1 (lv_room (Nat.le_of_ble_eq_true rfl)) dX8_word_10 ⟨Nat.zero_le _, Nat.zero_le _⟩ hS hA rfl (fun locs hS => ?_)
  exact W.lret (v := (fOf v)) hx hb hr (fun t ht hW => ⟨⟨(fOf v), (), rfl, rfl, ht⟩, hS.F ht⟩) hS.2.2 dX8_word_13
set_option maxHeartbeats 4000000 in
set_option maxRecDepth 100000 in
theorem x_X8_word (l : Launch) (hstk : l.stackTraces = false) (o : Nat) (v : Int32) (h : v.toInt64 < 0 ∨ 65535 < v.toInt64) : px_l l yX8_word wsX8_word ({ frames := 7, cells := 1, slots := 6, locals := 106 } : Room) [.ref o, .int v] "java/lang/IllegalArgumentException" := by
  intro H0
  refine vx_ofW (cc := cX8_word) (maxL := 2) (ret := (some .long)) (by decide) rfl ?_
  intro p e s m args below meth c s₁ B hml ht hv
  obtain ⟨rfl, rfl, hX⟩ := hv
  have hx := B.exec
  have hb := B.bytes
  have hr := B.returns
  have hts := atoms_spec (ws := wsX8_word) B.pre
  have hown : s.vm.findClass RX8 = some m.cls := findClass_of_methodNamed B.named
  have hlocks := B.notSynchronized
  have hS : va_S (xA s) s.heap s.heap [] := va_S.rf
  have hA : ∀ q : Nat, s.heap.size ≤ q → xA s q := fun _ h => h
  have hl := lv_entry ([.ref o, .int v]) (n := 2) (Nat.le_of_ble_eq_true rfl)
  rw [lg_entry_eq]
  generalize (lg_sl ([.ref o, .int v]) ++ List.replicate (2 - (lg_sl ([.ref o, .int v])).length) Slot.unset).toArray = ls at hl ⊢
  have hl : lv_has ls 2 [(0, .ref o), (1, .int v)] := hl
  refine lv_iload_n hx hb dX8_word_0 rfl (lv_at hl 1 rfl) ?_
  refine lv_i2l hx hb dX8_word_1 rfl ?_
  refine lv_lconst (v := 0) hx hb dX8_word_2 (by decide) ?_
  refine lv_ldc2 (v := 65535) hx hb hown (hts (.constantLong RX8 51 65535) (by decide +kernel)) dX8_word_3 ?_
  exact px_outv (As := [.long v.toInt64, .long 0, .long 65535]) (rest := []) ⟨hx, hb, hml, hown, hts⟩ (x_X8_checkRange l hstk v.toInt64 0 65535 h) (va_cwS 3 hts gX8_word_X8_checkRange rfl rfl rfl (by decide +kernel) ⟨(Nat.le_of_ble_eq_true rfl), (Nat.le_of_ble_eq_true rfl)⟩) rfl hl.1 (lv_room (Nat.le_of_ble_eq_true rfl)) dX8_word_6 ⟨(Nat.le_of_ble_eq_true rfl), (Nat.le_of_ble_eq_true rfl)⟩ hS rfl hX ht hlocks
set_option maxHeartbeats 4000000 in
set_option maxRecDepth 100000 in
theorem c_X8_repairedOrThrow (l : Launch) (w : Int64) (k : Int32) (h1 : ¬ w < 0) (h2 : ¬ 4294967295 < w) (h3 : ¬ k.toInt64 < 0) (h4 : ¬ 255 < k.toInt64) (hne : ¬ fRep w k = -1) : pc_l l yX8_repairedOrThrow wsX8_repairedOrThrow ({ frames := 4, cells := 0, slots := 0, locals := 105 } : Room) [.long w, .int k] (fRep w k) := by
  intro H0
  refine Met.ofW (cc := cX8_repairedOrThrow) (maxL := 5) (ret := (some .long)) (by decide) rfl ?_
  intro p e s m args below meth c s₁ B hml hv
  obtain ⟨rfl, rfl⟩ := hv
  have hx := B.exec
  have hb := B.bytes
  have hr := B.returns
  have hts := atoms_spec (ws := wsX8_repairedOrThrow) B.pre
  have hown : s.vm.findClass RX8 = some m.cls := findClass_of_methodNamed B.named
  have hlocks := B.notSynchronized
  have hS : va_S (fun q => s.heap.size ≤ q) s.heap s.heap [] := va_S.rf
  have hA : ∀ q : Nat, s.heap.size ≤ q → (fun q : Nat => s.heap.size ≤ q) q := fun _ h => h
  have hl := lv_entry ([.long w, .int k]) (n := 5) (Nat.le_of_ble_eq_true rfl)
  rw [lg_entry_eq]
  generalize (lg_sl ([.long w, .int k]) ++ List.replicate (5 - (lg_sl ([.long w, .int k])).length) Slot.unset).toArray = ls at hl ⊢
  have hl : lv_has ls 5 [(0, .long w), (2, .int k)] := hl
  refine lv_lload_n hx hb dX8_repairedOrThrow_0 rfl (lv_at hl 0 rfl) ?_
  refine lv_lconst (v := 0) hx hb dX8_repairedOrThrow_1 (by decide) ?_
  refine lv_ldc2 (v := 4294967295) hx hb hown (hts (.constantLong RX8 298 4294967295) (by decide +kernel)) dX8_repairedOrThrow_2 ?_
  refine pu_callv (As := [.long w, .long 0, .long 4294967295]) (rest := []) ⟨hx, hb, hml, hown, hts⟩ (c_X8_checkRange l w 0 4294967295 h1 h2) (va_cwS 3 hts gX8_repairedOrThrow_X8_checkRange rfl rfl rfl (by decide +kernel) ⟨(Nat.le_of_ble_eq_true rfl), (Nat.le_of_ble_eq_true rfl)⟩) rfl hl.1 (lv_room (Nat.le_of_ble_eq_true rfl)) dX8_repairedOrThrow_5 ⟨Nat.zero_le _, Nat.zero_le _⟩ hS hA rfl (fun locs hS => ?_)
  refine lv_iload_n hx hb dX8_repairedOrThrow_8 rfl (lv_at hl 1 rfl) ?_
  refine lv_i2l hx hb dX8_repairedOrThrow_9 rfl ?_
  refine lv_lconst (v := 0) hx hb dX8_repairedOrThrow_10 (by decide) ?_
  refine lv_ldc2 (v := 255) hx hb hown (hts (.constantLong RX8 75 255) (by decide +kernel)) dX8_repairedOrThrow_11 ?_
  refine pu_callv (As := [.long k.toInt64, .long 0, .long 255]) (rest := []) ⟨hx, hb, hml, hown, hts⟩ (c_X8_checkRange l k.toInt64 0 255 h3 h4) (va_cwS 3 hts gX8_repairedOrThrow_X8_checkRange rfl rfl rfl (by decide +kernel) ⟨(Nat.le_of_ble_eq_true rfl), (Nat.le_of_ble_eq_true rfl)⟩) rfl hl.1 (lv_room (Nat.le_of_ble_eq_true rfl)) dX8_repairedOrThrow_14 ⟨Nat.zero_le _, Nat.zero_le _⟩ hS hA rfl (fun locs hS => ?_)
  refine lv_lload_n hx hb dX8_repairedOrThrow_17 rfl (lv_at hl 0 rfl) ?_
  refine lv_iload_n hx hb dX8_repairedOrThrow_18 rfl (lv_at hl 1 rfl) ?_
  refine pu_calll (As := [.long w, .int k]) (rest := []) ⟨hx, hb, hml, hown, hts⟩ (c_X7_repaired l w k) (va_cwS 2 hts gX8_repairedOrThrow_X7_repaired rfl rfl rfl (by decide +kernel) ⟨(Nat.le_of_ble_eq_true rfl), (Nat.le_of_ble_eq_true rfl)⟩) rfl hl.1 (lv_room (Nat.le_of_ble_eq_true rfl)) dX8_repairedOrThrow_19 ⟨Nat.zero_le _, Nat.zero_le _⟩ hS hA rfl (fun locs hS => ?_)
  refine lv_lstore_n (lv' := [(3, .long (fRep w k)), (0, .long w), (2, .int k)]) hx hb dX8_repairedOrThrow_22 rfl hl (by decide) rfl (fun ls hl => ?_)
  refine lv_lload_n hx hb dX8_repairedOrThrow_23 rfl (lv_at hl 0 rfl) ?_
  refine lv_ldc2 (v := (-1)) hx hb hown (hts (.constantLong RX8 303 (-1)) (by decide +kernel)) dX8_repairedOrThrow_24 ?_
  refine W.lcmp hx hb dX8_repairedOrThrow_27 ?_
  refine lv_if_ne (tgt := 39) hx hb dX8_repairedOrThrow_28 (by decide) (fun c_28 => ?_) (fun c_28 => absurd c_28 (fun h => hne ((lg_cmp_eq _ _).mp h)))
  refine lv_lload_n hx hb dX8_repairedOrThrow_39 rfl (lv_at hl 0 rfl) ?_
  exact W.lret (v := (fRep w k)) hx hb hr (fun t ht hW => ⟨⟨(fRep w k), (), rfl, rfl, ht⟩, hS.F ht⟩) hS.2.2 dX8_repairedOrThrow_40
set_option maxHeartbeats 4000000 in
set_option maxRecDepth 100000 in
theorem x_X8_repairedOrThrow_1 (l : Launch) (hstk : l.stackTraces = false) (w : Int64) (k : Int32) (h : w < 0 ∨ 4294967295 < w) : px_l l yX8_repairedOrThrow wsX8_repairedOrThrow ({ frames := 7, cells := 1, slots := 6, locals := 106 } : Room) [.long w, .int k] "java/lang/IllegalArgumentException" := by
  intro H0
  refine vx_ofW (cc := cX8_repairedOrThrow) (maxL := 5) (ret := (some .long)) (by decide) rfl ?_
  intro p e s m args below meth c s₁ B hml ht hv
  obtain ⟨rfl, rfl, hX⟩ := hv
  have hx := B.exec
  have hb := B.bytes
  have hr := B.returns
  have hts := atoms_spec (ws := wsX8_repairedOrThrow) B.pre
  have hown : s.vm.findClass RX8 = some m.cls := findClass_of_methodNamed B.named
  have hlocks := B.notSynchronized
  have hS : va_S (xA s) s.heap s.heap [] := va_S.rf
  have hA : ∀ q : Nat, s.heap.size ≤ q → xA s q := fun _ h => h
  have hl := lv_entry ([.long w, .int k]) (n := 5) (Nat.le_of_ble_eq_true rfl)
  rw [lg_entry_eq]
  generalize (lg_sl ([.long w, .int k]) ++ List.replicate (5 - (lg_sl ([.long w, .int k])).length) Slot.unset).toArray = ls at hl ⊢
  have hl : lv_has ls 5 [(0, .long w), (2, .int k)] := hl
  refine lv_lload_n hx hb dX8_repairedOrThrow_0 rfl (lv_at hl 0 rfl) ?_
  refine lv_lconst (v := 0) hx hb dX8_repairedOrThrow_1 (by decide) ?_
  refine lv_ldc2 (v := 4294967295) hx hb hown (hts (.constantLong RX8 298 4294967295) (by decide +kernel)) dX8_repairedOrThrow_2 ?_
  exact px_outv (As := [.long w, .long 0, .long 4294967295]) (rest := []) ⟨hx, hb, hml, hown, hts⟩ (x_X8_checkRange l hstk w 0 4294967295 h) (va_cwS 3 hts gX8_repairedOrThrow_X8_checkRange rfl rfl rfl (by decide +kernel) ⟨(Nat.le_of_ble_eq_true rfl), (Nat.le_of_ble_eq_true rfl)⟩) rfl hl.1 (lv_room (Nat.le_of_ble_eq_true rfl)) dX8_repairedOrThrow_5 ⟨(Nat.le_of_ble_eq_true rfl), (Nat.le_of_ble_eq_true rfl)⟩ hS rfl hX ht hlocks
set_option maxHeartbeats 4000000 in
set_option maxRecDepth 100000 in
theorem x_X8_repairedOrThrow_2 (l : Launch) (hstk : l.stackTraces = false) (w : Int64) (k : Int32) (h1 : ¬ w < 0) (h2 : ¬ 4294967295 < w) (h : k.toInt64 < 0 ∨ 255 < k.toInt64) : px_l l yX8_repairedOrThrow wsX8_repairedOrThrow ({ frames := 7, cells := 1, slots := 6, locals := 106 } : Room) [.long w, .int k] "java/lang/IllegalArgumentException" := by
  intro H0
  refine vx_ofW (cc := cX8_repairedOrThrow) (maxL := 5) (ret := (some .long)) (by decide) rfl ?_
  intro p e s m args below meth c s₁ B hml ht hv
  obtain ⟨rfl, rfl, hX⟩ := hv
  have hx := B.exec
  have hb := B.bytes
  have hr := B.returns
  have hts := atoms_spec (ws := wsX8_repairedOrThrow) B.pre
  have hown : s.vm.findClass RX8 = some m.cls := findClass_of_methodNamed B.named
  have hlocks := B.notSynchronized
  have hS : va_S (xA s) s.heap s.heap [] := va_S.rf
  have hA : ∀ q : Nat, s.heap.size ≤ q → xA s q := fun _ h => h
  have hl := lv_entry ([.long w, .int k]) (n := 5) (Nat.le_of_ble_eq_true rfl)
  rw [lg_entry_eq]
  generalize (lg_sl ([.long w, .int k]) ++ List.replicate (5 - (lg_sl ([.long w, .int k])).length) Slot.unset).toArray = ls at hl ⊢
  have hl : lv_has ls 5 [(0, .long w), (2, .int k)] := hl
  refine lv_lload_n hx hb dX8_repairedOrThrow_0 rfl (lv_at hl 0 rfl) ?_
  refine lv_lconst (v := 0) hx hb dX8_repairedOrThrow_1 (by decide) ?_
  refine lv_ldc2 (v := 4294967295) hx hb hown (hts (.constantLong RX8 298 4294967295) (by decide +kernel)) dX8_repairedOrThrow_2 ?_
  refine pu_callv (As := [.long w, .long 0, .long 4294967295]) (rest := []) ⟨hx, hb, hml, hown, hts⟩ (c_X8_checkRange l w 0 4294967295 h1 h2) (va_cwS 3 hts gX8_repairedOrThrow_X8_checkRange rfl rfl rfl (by decide +kernel) ⟨(Nat.le_of_ble_eq_true rfl), (Nat.le_of_ble_eq_true rfl)⟩) rfl hl.1 (lv_room (Nat.le_of_ble_eq_true rfl)) dX8_repairedOrThrow_5 ⟨Nat.zero_le _, Nat.zero_le _⟩ hS hA rfl (fun locs hS => ?_)
  refine lv_iload_n hx hb dX8_repairedOrThrow_8 rfl (lv_at hl 1 rfl) ?_
  refine lv_i2l hx hb dX8_repairedOrThrow_9 rfl ?_
  refine lv_lconst (v := 0) hx hb dX8_repairedOrThrow_10 (by decide) ?_
  refine lv_ldc2 (v := 255) hx hb hown (hts (.constantLong RX8 75 255) (by decide +kernel)) dX8_repairedOrThrow_11 ?_
  exact px_outv (As := [.long k.toInt64, .long 0, .long 255]) (rest := []) ⟨hx, hb, hml, hown, hts⟩ (x_X8_checkRange l hstk k.toInt64 0 255 h) (va_cwS 3 hts gX8_repairedOrThrow_X8_checkRange rfl rfl rfl (by decide +kernel) ⟨(Nat.le_of_ble_eq_true rfl), (Nat.le_of_ble_eq_true rfl)⟩) rfl hl.1 (lv_room (Nat.le_of_ble_eq_true rfl)) dX8_repairedOrThrow_14 ⟨(Nat.le_of_ble_eq_true rfl), (Nat.le_of_ble_eq_true rfl)⟩ hS rfl hX ht hlocks
set_option maxHeartbeats 4000000 in
set_option maxRecDepth 100000 in
theorem x_X8_repairedOrThrow_3 (l : Launch) (hstk : l.stackTraces = false) (w : Int64) (k : Int32) (h1 : ¬ w < 0) (h2 : ¬ 4294967295 < w) (h3 : ¬ k.toInt64 < 0) (h4 : ¬ 255 < k.toInt64) (he : fRep w k = -1) : px_l l yX8_repairedOrThrow wsX8_repairedOrThrow ({ frames := 7, cells := 1, slots := 6, locals := 106 } : Room) [.long w, .int k] "java/util/NoSuchElementException" := by
  intro H0
  refine vx_ofW (cc := cX8_repairedOrThrow) (maxL := 5) (ret := (some .long)) (by decide) rfl ?_
  intro p e s m args below meth c s₁ B hml ht hv
  obtain ⟨rfl, rfl, hX⟩ := hv
  have hx := B.exec
  have hb := B.bytes
  have hr := B.returns
  have hts := atoms_spec (ws := wsX8_repairedOrThrow) B.pre
  have hown : s.vm.findClass RX8 = some m.cls := findClass_of_methodNamed B.named
  have hlocks := B.notSynchronized
  have hS : va_S (xA s) s.heap s.heap [] := va_S.rf
  have hA : ∀ q : Nat, s.heap.size ≤ q → xA s q := fun _ h => h
  have hl := lv_entry ([.long w, .int k]) (n := 5) (Nat.le_of_ble_eq_true rfl)
  rw [lg_entry_eq]
  generalize (lg_sl ([.long w, .int k]) ++ List.replicate (5 - (lg_sl ([.long w, .int k])).length) Slot.unset).toArray = ls at hl ⊢
  have hl : lv_has ls 5 [(0, .long w), (2, .int k)] := hl
  refine lv_lload_n hx hb dX8_repairedOrThrow_0 rfl (lv_at hl 0 rfl) ?_
  refine lv_lconst (v := 0) hx hb dX8_repairedOrThrow_1 (by decide) ?_
  refine lv_ldc2 (v := 4294967295) hx hb hown (hts (.constantLong RX8 298 4294967295) (by decide +kernel)) dX8_repairedOrThrow_2 ?_
  refine pu_callv (As := [.long w, .long 0, .long 4294967295]) (rest := []) ⟨hx, hb, hml, hown, hts⟩ (c_X8_checkRange l w 0 4294967295 h1 h2) (va_cwS 3 hts gX8_repairedOrThrow_X8_checkRange rfl rfl rfl (by decide +kernel) ⟨(Nat.le_of_ble_eq_true rfl), (Nat.le_of_ble_eq_true rfl)⟩) rfl hl.1 (lv_room (Nat.le_of_ble_eq_true rfl)) dX8_repairedOrThrow_5 ⟨Nat.zero_le _, Nat.zero_le _⟩ hS hA rfl (fun locs hS => ?_)
  refine lv_iload_n hx hb dX8_repairedOrThrow_8 rfl (lv_at hl 1 rfl) ?_
  refine lv_i2l hx hb dX8_repairedOrThrow_9 rfl ?_
  refine lv_lconst (v := 0) hx hb dX8_repairedOrThrow_10 (by decide) ?_
  refine lv_ldc2 (v := 255) hx hb hown (hts (.constantLong RX8 75 255) (by decide +kernel)) dX8_repairedOrThrow_11 ?_
  refine pu_callv (As := [.long k.toInt64, .long 0, .long 255]) (rest := []) ⟨hx, hb, hml, hown, hts⟩ (c_X8_checkRange l k.toInt64 0 255 h3 h4) (va_cwS 3 hts gX8_repairedOrThrow_X8_checkRange rfl rfl rfl (by decide +kernel) ⟨(Nat.le_of_ble_eq_true rfl), (Nat.le_of_ble_eq_true rfl)⟩) rfl hl.1 (lv_room (Nat.le_of_ble_eq_true rfl)) dX8_repairedOrThrow_14 ⟨Nat.zero_le _, Nat.zero_le _⟩ hS hA rfl (fun locs hS => ?_)
  refine lv_lload_n hx hb dX8_repairedOrThrow_17 rfl (lv_at hl 0 rfl) ?_
  refine lv_iload_n hx hb dX8_repairedOrThrow_18 rfl (lv_at hl 1 rfl) ?_
  refine pu_calll (As := [.long w, .int k]) (rest := []) ⟨hx, hb, hml, hown, hts⟩ (c_X7_repaired l w k) (va_cwS 2 hts gX8_repairedOrThrow_X7_repaired rfl rfl rfl (by decide +kernel) ⟨(Nat.le_of_ble_eq_true rfl), (Nat.le_of_ble_eq_true rfl)⟩) rfl hl.1 (lv_room (Nat.le_of_ble_eq_true rfl)) dX8_repairedOrThrow_19 ⟨Nat.zero_le _, Nat.zero_le _⟩ hS hA rfl (fun locs hS => ?_)
  refine lv_lstore_n (lv' := [(3, .long (fRep w k)), (0, .long w), (2, .int k)]) hx hb dX8_repairedOrThrow_22 rfl hl (by decide) rfl (fun ls hl => ?_)
  refine lv_lload_n hx hb dX8_repairedOrThrow_23 rfl (lv_at hl 0 rfl) ?_
  refine lv_ldc2 (v := (-1)) hx hb hown (hts (.constantLong RX8 303 (-1)) (by decide +kernel)) dX8_repairedOrThrow_24 ?_
  refine W.lcmp hx hb dX8_repairedOrThrow_27 ?_
  refine lv_if_ne (tgt := 39) hx hb dX8_repairedOrThrow_28 (by decide) (fun c_28 => absurd c_28 (fun h => h ((lg_cmp_eq _ _).mpr he))) (fun c_28 => ?_)
  exact vx_throw0 (own := RX8) (cls := "java/util/NoSuchElementException") (names := xNames) (ik := 87) (ic := 89) (A := xA s) hx hb hstk hown (by decide) (by decide) (hts (.classLink RX8 87 "java/util/NoSuchElementException") (by decide +kernel)) (hts (.initialized "java/util/NoSuchElementException") (by decide +kernel)) (vx_hat (fun w hw => hts w (List.mem_cons_of_mem _ (List.mem_append_left _ (List.mem_append_right _ hw)))) xB_NSE (xK_B hX)) xgood_NSE hX.2.1 hX.2.2 hS (by rw [hml]; exact hl.1) dX8_repairedOrThrow_31 dX8_repairedOrThrow_34 dX8_repairedOrThrow_35 dX8_repairedOrThrow_38 (fun x hx => (ht x hx).elim) (Nat.le_of_ble_eq_true rfl) (Nat.le_of_ble_eq_true rfl) (Nat.le_of_ble_eq_true rfl) (Nat.le_of_ble_eq_true rfl) hlocks (fun t ha hz hk => ⟨(), trivial, rfl, hz, fun q h1 _ => hk q h1⟩) hS.2.2 (Nat.le_of_ble_eq_true rfl) (Nat.le_of_ble_eq_true rfl)
set_option maxHeartbeats 4000000 in
set_option maxRecDepth 100000 in
theorem c_X8_mend (l : Launch) (o : Nat) (w : Int64) (k : Int32) (h1 : ¬ w < 0) (h2 : ¬ 4294967295 < w) (h3 : ¬ k.toInt64 < 0) (h4 : ¬ 255 < k.toInt64) (hne : ¬ fRep w k = -1) : pc_i l yX8_mend wsX8_mend ({ frames := 5, cells := 0, slots := 0, locals := 129 } : Room) [.ref o, .long w, .int k] (fVal (fRep w k)) := by
  intro H0
  refine Met.ofW (cc := cX8_mend) (maxL := 4) (ret := (some .int)) (by decide) rfl ?_
  intro p e s m args below meth c s₁ B hml hv
  obtain ⟨rfl, rfl⟩ := hv
  have hx := B.exec
  have hb := B.bytes
  have hr := B.returns
  have hts := atoms_spec (ws := wsX8_mend) B.pre
  have hown : s.vm.findClass RX8 = some m.cls := findClass_of_methodNamed B.named
  have hlocks := B.notSynchronized
  have hS : va_S (fun q => s.heap.size ≤ q) s.heap s.heap [] := va_S.rf
  have hA : ∀ q : Nat, s.heap.size ≤ q → (fun q : Nat => s.heap.size ≤ q) q := fun _ h => h
  have hl := lv_entry ([.ref o, .long w, .int k]) (n := 4) (Nat.le_of_ble_eq_true rfl)
  rw [lg_entry_eq]
  generalize (lg_sl ([.ref o, .long w, .int k]) ++ List.replicate (4 - (lg_sl ([.ref o, .long w, .int k])).length) Slot.unset).toArray = ls at hl ⊢
  have hl : lv_has ls 4 [(0, .ref o), (1, .long w), (3, .int k)] := hl
  refine lv_lload_n hx hb dX8_mend_0 rfl (lv_at hl 1 rfl) ?_
  refine lv_iload_n hx hb dX8_mend_1 rfl (lv_at hl 2 rfl) ?_
  refine pu_calll (As := [.long w, .int k]) (rest := []) ⟨hx, hb, hml, hown, hts⟩ (c_X8_repairedOrThrow l w k h1 h2 h3 h4 hne) (va_cwS 2 hts gX8_mend_X8_repairedOrThrow rfl rfl rfl (by decide +kernel) ⟨(Nat.le_of_ble_eq_true rfl), (Nat.le_of_ble_eq_true rfl)⟩) rfl hl.1 (lv_room (Nat.le_of_ble_eq_true rfl)) dX8_mend_2 ⟨Nat.zero_le _, Nat.zero_le _⟩ hS hA rfl (fun locs hS => ?_)
  refine pu_calli (As := [.long (fRep w k)]) (rest := []) ⟨hx, hb, hml, hown, hts⟩ (c_X7_valueOf l (fRep w k)) (va_cwS 1 hts gX8_mend_X7_valueOf rfl rfl rfl (by decide +kernel) ⟨(Nat.le_of_ble_eq_true rfl), (Nat.le_of_ble_eq_true rfl)⟩) rfl hl.1 (lv_room (Nat.le_of_ble_eq_true rfl)) dX8_mend_5 ⟨Nat.zero_le _, Nat.zero_le _⟩ hS hA rfl (fun locs hS => ?_)
  exact W.iret (v := (fVal (fRep w k))) hx hb hr (fun t ht hW => ⟨⟨(fVal (fRep w k)), (), rfl, rfl, ht⟩, hS.F ht⟩) hS.2.2 dX8_mend_8
set_option maxHeartbeats 4000000 in
set_option maxRecDepth 100000 in
theorem c_X8_mended (l : Launch) (o : Nat) (w : Int64) (k : Int32) (h1 : ¬ w < 0) (h2 : ¬ 4294967295 < w) (h3 : ¬ k.toInt64 < 0) (h4 : ¬ 255 < k.toInt64) (hne : ¬ fRep w k = -1) : pc_i l yX8_mended wsX8_mended ({ frames := 5, cells := 0, slots := 0, locals := 129 } : Room) [.ref o, .long w, .int k] (fDiff w (fRep w k)) := by
  intro H0
  refine Met.ofW (cc := cX8_mended) (maxL := 4) (ret := (some .int)) (by decide) rfl ?_
  intro p e s m args below meth c s₁ B hml hv
  obtain ⟨rfl, rfl⟩ := hv
  have hx := B.exec
  have hb := B.bytes
  have hr := B.returns
  have hts := atoms_spec (ws := wsX8_mended) B.pre
  have hown : s.vm.findClass RX8 = some m.cls := findClass_of_methodNamed B.named
  have hlocks := B.notSynchronized
  have hS : va_S (fun q => s.heap.size ≤ q) s.heap s.heap [] := va_S.rf
  have hA : ∀ q : Nat, s.heap.size ≤ q → (fun q : Nat => s.heap.size ≤ q) q := fun _ h => h
  have hl := lv_entry ([.ref o, .long w, .int k]) (n := 4) (Nat.le_of_ble_eq_true rfl)
  rw [lg_entry_eq]
  generalize (lg_sl ([.ref o, .long w, .int k]) ++ List.replicate (4 - (lg_sl ([.ref o, .long w, .int k])).length) Slot.unset).toArray = ls at hl ⊢
  have hl : lv_has ls 4 [(0, .ref o), (1, .long w), (3, .int k)] := hl
  refine lv_lload_n hx hb dX8_mended_0 rfl (lv_at hl 1 rfl) ?_
  refine lv_lload_n hx hb dX8_mended_1 rfl (lv_at hl 1 rfl) ?_
  refine lv_iload_n hx hb dX8_mended_2 rfl (lv_at hl 2 rfl) ?_
  refine pu_calll (As := [.long w, .int k]) (rest := [.long w]) ⟨hx, hb, hml, hown, hts⟩ (c_X8_repairedOrThrow l w k h1 h2 h3 h4 hne) (va_cwS 2 hts gX8_mended_X8_repairedOrThrow rfl rfl rfl (by decide +kernel) ⟨(Nat.le_of_ble_eq_true rfl), (Nat.le_of_ble_eq_true rfl)⟩) rfl hl.1 (lv_room (Nat.le_of_ble_eq_true rfl)) dX8_mended_3 ⟨Nat.zero_le _, Nat.zero_le _⟩ hS hA rfl (fun locs hS => ?_)
  refine pu_calli (As := [.long w, .long (fRep w k)]) (rest := []) ⟨hx, hb, hml, hown, hts⟩ (c_X7_differences l w (fRep w k)) (va_cwS 2 hts gX8_mended_X7_differences rfl rfl rfl (by decide +kernel) ⟨(Nat.le_of_ble_eq_true rfl), (Nat.le_of_ble_eq_true rfl)⟩) rfl hl.1 (lv_room (Nat.le_of_ble_eq_true rfl)) dX8_mended_6 ⟨Nat.zero_le _, Nat.zero_le _⟩ hS hA rfl (fun locs hS => ?_)
  exact W.iret (v := (fDiff w (fRep w k))) hx hb hr (fun t ht hW => ⟨⟨(fDiff w (fRep w k)), (), rfl, rfl, ht⟩, hS.F ht⟩) hS.2.2 dX8_mended_9
set_option maxHeartbeats 4000000 in
set_option maxRecDepth 100000 in
theorem x_X8_mend (l : Launch) (hstk : l.stackTraces = false) (o : Nat) (w : Int64) (k : Int32) (X : String) (hM : px_l l yX8_repairedOrThrow wsX8_repairedOrThrow ({ frames := 7, cells := 1, slots := 6, locals := 106 } : Room) [.long w, .int k] X) : px_i l yX8_mend wsX8_mend ({ frames := 8, cells := 1, slots := 6, locals := 130 } : Room) [.ref o, .long w, .int k] X := by
  intro H0
  refine vx_ofW (cc := cX8_mend) (maxL := 4) (ret := (some .int)) (by decide) rfl ?_
  intro p e s m args below meth c s₁ B hml ht hv
  obtain ⟨rfl, rfl, hX⟩ := hv
  have hx := B.exec
  have hb := B.bytes
  have hr := B.returns
  have hts := atoms_spec (ws := wsX8_mend) B.pre
  have hown : s.vm.findClass RX8 = some m.cls := findClass_of_methodNamed B.named
  have hlocks := B.notSynchronized
  have hS : va_S (xA s) s.heap s.heap [] := va_S.rf
  have hA : ∀ q : Nat, s.heap.size ≤ q → xA s q := fun _ h => h
  have hl := lv_entry ([.ref o, .long w, .int k]) (n := 4) (Nat.le_of_ble_eq_true rfl)
  rw [lg_entry_eq]
  generalize (lg_sl ([.ref o, .long w, .int k]) ++ List.replicate (4 - (lg_sl ([.ref o, .long w, .int k])).length) Slot.unset).toArray = ls at hl ⊢
  have hl : lv_has ls 4 [(0, .ref o), (1, .long w), (3, .int k)] := hl
  refine lv_lload_n hx hb dX8_mend_0 rfl (lv_at hl 1 rfl) ?_
  refine lv_iload_n hx hb dX8_mend_1 rfl (lv_at hl 2 rfl) ?_
  exact px_outl (As := [.long w, .int k]) (rest := []) ⟨hx, hb, hml, hown, hts⟩ (hM) (va_cwS 2 hts gX8_mend_X8_repairedOrThrow rfl rfl rfl (by decide +kernel) ⟨(Nat.le_of_ble_eq_true rfl), (Nat.le_of_ble_eq_true rfl)⟩) rfl hl.1 (lv_room (Nat.le_of_ble_eq_true rfl)) dX8_mend_2 ⟨(Nat.le_of_ble_eq_true rfl), (Nat.le_of_ble_eq_true rfl)⟩ hS rfl hX ht hlocks
set_option maxHeartbeats 4000000 in
set_option maxRecDepth 100000 in
theorem x_X8_mended (l : Launch) (hstk : l.stackTraces = false) (o : Nat) (w : Int64) (k : Int32) (X : String) (hM : px_l l yX8_repairedOrThrow wsX8_repairedOrThrow ({ frames := 7, cells := 1, slots := 6, locals := 106 } : Room) [.long w, .int k] X) : px_i l yX8_mended wsX8_mended ({ frames := 8, cells := 1, slots := 6, locals := 130 } : Room) [.ref o, .long w, .int k] X := by
  intro H0
  refine vx_ofW (cc := cX8_mended) (maxL := 4) (ret := (some .int)) (by decide) rfl ?_
  intro p e s m args below meth c s₁ B hml ht hv
  obtain ⟨rfl, rfl, hX⟩ := hv
  have hx := B.exec
  have hb := B.bytes
  have hr := B.returns
  have hts := atoms_spec (ws := wsX8_mended) B.pre
  have hown : s.vm.findClass RX8 = some m.cls := findClass_of_methodNamed B.named
  have hlocks := B.notSynchronized
  have hS : va_S (xA s) s.heap s.heap [] := va_S.rf
  have hA : ∀ q : Nat, s.heap.size ≤ q → xA s q := fun _ h => h
  have hl := lv_entry ([.ref o, .long w, .int k]) (n := 4) (Nat.le_of_ble_eq_true rfl)
  rw [lg_entry_eq]
  generalize (lg_sl ([.ref o, .long w, .int k]) ++ List.replicate (4 - (lg_sl ([.ref o, .long w, .int k])).length) Slot.unset).toArray = ls at hl ⊢
  have hl : lv_has ls 4 [(0, .ref o), (1, .long w), (3, .int k)] := hl
  refine lv_lload_n hx hb dX8_mended_0 rfl (lv_at hl 1 rfl) ?_
  refine lv_lload_n hx hb dX8_mended_1 rfl (lv_at hl 1 rfl) ?_
  refine lv_iload_n hx hb dX8_mended_2 rfl (lv_at hl 2 rfl) ?_
  exact px_outl (As := [.long w, .int k]) (rest := [.long w]) ⟨hx, hb, hml, hown, hts⟩ (hM) (va_cwS 2 hts gX8_mended_X8_repairedOrThrow rfl rfl rfl (by decide +kernel) ⟨(Nat.le_of_ble_eq_true rfl), (Nat.le_of_ble_eq_true rfl)⟩) rfl hl.1 (lv_room (Nat.le_of_ble_eq_true rfl)) dX8_mended_3 ⟨(Nat.le_of_ble_eq_true rfl), (Nat.le_of_ble_eq_true rfl)⟩ hS rfl hX ht hlocks
set_option maxHeartbeats 4000000 in
set_option maxRecDepth 100000 in
theorem c_X8_encode (l : Launch) (o : Nat) (d b : Int32) (h1 : ¬ d.toInt64 < 0) (h2 : ¬ 255 < d.toInt64) (h3 : ¬ b.toInt64 < 0) (h4 : ¬ 1 < b.toInt64) : pc_i l yX8_encode wsX8_encode ({ frames := 1, cells := 0, slots := 0, locals := 26 } : Room) [.ref o, .int d, .int b] (fByte d b) := by
  intro H0
  refine Met.ofW (cc := cX8_encode) (maxL := 3) (ret := (some .int)) (by decide) rfl ?_
  intro p e s m args below meth c s₁ B hml hv
  obtain ⟨rfl, rfl⟩ := hv
  have hx := B.exec
  have hb := B.bytes
  have hr := B.returns
  have hts := atoms_spec (ws := wsX8_encode) B.pre
  have hown : s.vm.findClass RX8 = some m.cls := findClass_of_methodNamed B.named
  have hlocks := B.notSynchronized
  have hS : va_S (fun q => s.heap.size ≤ q) s.heap s.heap [] := va_S.rf
  have hA : ∀ q : Nat, s.heap.size ≤ q → (fun q : Nat => s.heap.size ≤ q) q := fun _ h => h
  have hl := lv_entry ([.ref o, .int d, .int b]) (n := 3) (Nat.le_of_ble_eq_true rfl)
  rw [lg_entry_eq]
  generalize (lg_sl ([.ref o, .int d, .int b]) ++ List.replicate (3 - (lg_sl ([.ref o, .int d, .int b])).length) Slot.unset).toArray = ls at hl ⊢
  have hl : lv_has ls 3 [(0, .ref o), (1, .int d), (2, .int b)] := hl
  refine lv_iload_n hx hb dX8_encode_0 rfl (lv_at hl 1 rfl) ?_
  refine lv_i2l hx hb dX8_encode_1 rfl ?_
  refine lv_lconst (v := 0) hx hb dX8_encode_2 (by decide) ?_
  refine lv_ldc2 (v := 255) hx hb hown (hts (.constantLong RX8 75 255) (by decide +kernel)) dX8_encode_3 ?_
  refine pu_callv (As := [.long d.toInt64, .long 0, .long 255]) (rest := []) ⟨hx, hb, hml, hown, hts⟩ (c_X8_checkRange l d.toInt64 0 255 h1 h2) (va_cwS 3 hts gX8_encode_X8_checkRange rfl rfl rfl (by decide +kernel) ⟨(Nat.le_of_ble_eq_true rfl), (Nat.le_of_ble_eq_true rfl)⟩) rfl hl.1 (lv_room (Nat.le_of_ble_eq_true rfl)) dX8_encode_6 ⟨Nat.zero_le _, Nat.zero_le _⟩ hS hA rfl (fun locs hS => ?_)
  refine lv_iload_n hx hb dX8_encode_9 rfl (lv_at hl 2 rfl) ?_
  refine lv_i2l hx hb dX8_encode_10 rfl ?_
  refine lv_lconst (v := 0) hx hb dX8_encode_11 (by decide) ?_
  refine lv_lconst (v := 1) hx hb dX8_encode_12 (by decide) ?_
  refine pu_callv (As := [.long b.toInt64, .long 0, .long 1]) (rest := []) ⟨hx, hb, hml, hown, hts⟩ (c_X8_checkRange l b.toInt64 0 1 h3 h4) (va_cwS 3 hts gX8_encode_X8_checkRange rfl rfl rfl (by decide +kernel) ⟨(Nat.le_of_ble_eq_true rfl), (Nat.le_of_ble_eq_true rfl)⟩) rfl hl.1 (lv_room (Nat.le_of_ble_eq_true rfl)) dX8_encode_13 ⟨Nat.zero_le _, Nat.zero_le _⟩ hS hA rfl (fun locs hS => ?_)
  refine lv_iload_n hx hb dX8_encode_16 rfl (lv_at hl 1 rfl) ?_
  refine lv_iload_n hx hb dX8_encode_17 rfl (lv_at hl 2 rfl) ?_
  refine pu_calli (As := [.int d, .int b]) (rest := []) ⟨hx, hb, hml, hown, hts⟩ (c_X1_ofByte l d b) (va_cwS 2 hts gX8_encode_X1_ofByte rfl rfl rfl (by decide +kernel) ⟨(Nat.le_of_ble_eq_true rfl), (Nat.le_of_ble_eq_true rfl)⟩) rfl hl.1 (lv_room (Nat.le_of_ble_eq_true rfl)) dX8_encode_18 ⟨Nat.zero_le _, Nat.zero_le _⟩ hS hA rfl (fun locs hS => ?_)
  exact W.iret (v := (fByte d b)) hx hb hr (fun t ht hW => ⟨⟨(fByte d b), (), rfl, rfl, ht⟩, hS.F ht⟩) hS.2.2 dX8_encode_21
set_option maxHeartbeats 4000000 in
set_option maxRecDepth 100000 in
theorem x_X8_encode_1 (l : Launch) (hstk : l.stackTraces = false) (o : Nat) (d b : Int32) (h : d.toInt64 < 0 ∨ 255 < d.toInt64) : px_i l yX8_encode wsX8_encode ({ frames := 7, cells := 1, slots := 6, locals := 106 } : Room) [.ref o, .int d, .int b] "java/lang/IllegalArgumentException" := by
  intro H0
  refine vx_ofW (cc := cX8_encode) (maxL := 3) (ret := (some .int)) (by decide) rfl ?_
  intro p e s m args below meth c s₁ B hml ht hv
  obtain ⟨rfl, rfl, hX⟩ := hv
  have hx := B.exec
  have hb := B.bytes
  have hr := B.returns
  have hts := atoms_spec (ws := wsX8_encode) B.pre
  have hown : s.vm.findClass RX8 = some m.cls := findClass_of_methodNamed B.named
  have hlocks := B.notSynchronized
  have hS : va_S (xA s) s.heap s.heap [] := va_S.rf
  have hA : ∀ q : Nat, s.heap.size ≤ q → xA s q := fun _ h => h
  have hl := lv_entry ([.ref o, .int d, .int b]) (n := 3) (Nat.le_of_ble_eq_true rfl)
  rw [lg_entry_eq]
  generalize (lg_sl ([.ref o, .int d, .int b]) ++ List.replicate (3 - (lg_sl ([.ref o, .int d, .int b])).length) Slot.unset).toArray = ls at hl ⊢
  have hl : lv_has ls 3 [(0, .ref o), (1, .int d), (2, .int b)] := hl
  refine lv_iload_n hx hb dX8_encode_0 rfl (lv_at hl 1 rfl) ?_
  refine lv_i2l hx hb dX8_encode_1 rfl ?_
  refine lv_lconst (v := 0) hx hb dX8_encode_2 (by decide) ?_
  refine lv_ldc2 (v := 255) hx hb hown (hts (.constantLong RX8 75 255) (by decide +kernel)) dX8_encode_3 ?_
  exact px_outv (As := [.long d.toInt64, .long 0, .long 255]) (rest := []) ⟨hx, hb, hml, hown, hts⟩ (x_X8_checkRange l hstk d.toInt64 0 255 h) (va_cwS 3 hts gX8_encode_X8_checkRange rfl rfl rfl (by decide +kernel) ⟨(Nat.le_of_ble_eq_true rfl), (Nat.le_of_ble_eq_true rfl)⟩) rfl hl.1 (lv_room (Nat.le_of_ble_eq_true rfl)) dX8_encode_6 ⟨(Nat.le_of_ble_eq_true rfl), (Nat.le_of_ble_eq_true rfl)⟩ hS rfl hX ht hlocks
set_option maxHeartbeats 4000000 in
set_option maxRecDepth 100000 in
theorem x_X8_encode_2 (l : Launch) (hstk : l.stackTraces = false) (o : Nat) (d b : Int32) (h1 : ¬ d.toInt64 < 0) (h2 : ¬ 255 < d.toInt64) (h : b.toInt64 < 0 ∨ 1 < b.toInt64) : px_i l yX8_encode wsX8_encode ({ frames := 7, cells := 1, slots := 6, locals := 106 } : Room) [.ref o, .int d, .int b] "java/lang/IllegalArgumentException" := by
  intro H0
  refine vx_ofW (cc := cX8_encode) (maxL := 3) (ret := (some .int)) (by decide) rfl ?_
  intro p e s m args below meth c s₁ B hml ht hv
  obtain ⟨rfl, rfl, hX⟩ := hv
  have hx := B.exec
  have hb := B.bytes
  have hr := B.returns
  have hts := atoms_spec (ws := wsX8_encode) B.pre
  have hown : s.vm.findClass RX8 = some m.cls := findClass_of_methodNamed B.named
  have hlocks := B.notSynchronized
  have hS : va_S (xA s) s.heap s.heap [] := va_S.rf
  have hA : ∀ q : Nat, s.heap.size ≤ q → xA s q := fun _ h => h
  have hl := lv_entry ([.ref o, .int d, .int b]) (n := 3) (Nat.le_of_ble_eq_true rfl)
  rw [lg_entry_eq]
  generalize (lg_sl ([.ref o, .int d, .int b]) ++ List.replicate (3 - (lg_sl ([.ref o, .int d, .int b])).length) Slot.unset).toArray = ls at hl ⊢
  have hl : lv_has ls 3 [(0, .ref o), (1, .int d), (2, .int b)] := hl
  refine lv_iload_n hx hb dX8_encode_0 rfl (lv_at hl 1 rfl) ?_
  refine lv_i2l hx hb dX8_encode_1 rfl ?_
  refine lv_lconst (v := 0) hx hb dX8_encode_2 (by decide) ?_
  refine lv_ldc2 (v := 255) hx hb hown (hts (.constantLong RX8 75 255) (by decide +kernel)) dX8_encode_3 ?_
  refine pu_callv (As := [.long d.toInt64, .long 0, .long 255]) (rest := []) ⟨hx, hb, hml, hown, hts⟩ (c_X8_checkRange l d.toInt64 0 255 h1 h2) (va_cwS 3 hts gX8_encode_X8_checkRange rfl rfl rfl (by decide +kernel) ⟨(Nat.le_of_ble_eq_true rfl), (Nat.le_of_ble_eq_true rfl)⟩) rfl hl.1 (lv_room (Nat.le_of_ble_eq_true rfl)) dX8_encode_6 ⟨Nat.zero_le _, Nat.zero_le _⟩ hS hA rfl (fun locs hS => ?_)
  refine lv_iload_n hx hb dX8_encode_9 rfl (lv_at hl 2 rfl) ?_
  refine lv_i2l hx hb dX8_encode_10 rfl ?_
  refine lv_lconst (v := 0) hx hb dX8_encode_11 (by decide) ?_
  refine lv_lconst (v := 1) hx hb dX8_encode_12 (by decide) ?_
  exact px_outv (As := [.long b.toInt64, .long 0, .long 1]) (rest := []) ⟨hx, hb, hml, hown, hts⟩ (x_X8_checkRange l hstk b.toInt64 0 1 h) (va_cwS 3 hts gX8_encode_X8_checkRange rfl rfl rfl (by decide +kernel) ⟨(Nat.le_of_ble_eq_true rfl), (Nat.le_of_ble_eq_true rfl)⟩) rfl hl.1 (lv_room (Nat.le_of_ble_eq_true rfl)) dX8_encode_13 ⟨(Nat.le_of_ble_eq_true rfl), (Nat.le_of_ble_eq_true rfl)⟩ hS rfl hX ht hlocks
set_option maxHeartbeats 4000000 in
set_option maxRecDepth 100000 in
theorem c_X8_decode (l : Launch) (o : Nat) (cl b : Int32) (h1 : ¬ cl.toInt64 < 0) (h2 : ¬ 65535 < cl.toInt64) (h3 : ¬ b.toInt64 < 0) (h4 : ¬ 1 < b.toInt64) (he : fByte (fData cl) b = cl) : pc_i l yX8_decode wsX8_decode ({ frames := 1, cells := 0, slots := 0, locals := 26 } : Room) [.ref o, .int cl, .int b] (fData cl) := by
  intro H0
  refine Met.ofW (cc := cX8_decode) (maxL := 4) (ret := (some .int)) (by decide) rfl ?_
  intro p e s m args below meth c s₁ B hml hv
  obtain ⟨rfl, rfl⟩ := hv
  have hx := B.exec
  have hb := B.bytes
  have hr := B.returns
  have hts := atoms_spec (ws := wsX8_decode) B.pre
  have hown : s.vm.findClass RX8 = some m.cls := findClass_of_methodNamed B.named
  have hlocks := B.notSynchronized
  have hS : va_S (fun q => s.heap.size ≤ q) s.heap s.heap [] := va_S.rf
  have hA : ∀ q : Nat, s.heap.size ≤ q → (fun q : Nat => s.heap.size ≤ q) q := fun _ h => h
  have hl := lv_entry ([.ref o, .int cl, .int b]) (n := 4) (Nat.le_of_ble_eq_true rfl)
  rw [lg_entry_eq]
  generalize (lg_sl ([.ref o, .int cl, .int b]) ++ List.replicate (4 - (lg_sl ([.ref o, .int cl, .int b])).length) Slot.unset).toArray = ls at hl ⊢
  have hl : lv_has ls 4 [(0, .ref o), (1, .int cl), (2, .int b)] := hl
  refine lv_iload_n hx hb dX8_decode_0 rfl (lv_at hl 1 rfl) ?_
  refine lv_i2l hx hb dX8_decode_1 rfl ?_
  refine lv_lconst (v := 0) hx hb dX8_decode_2 (by decide) ?_
  refine lv_ldc2 (v := 65535) hx hb hown (hts (.constantLong RX8 51 65535) (by decide +kernel)) dX8_decode_3 ?_
  refine pu_callv (As := [.long cl.toInt64, .long 0, .long 65535]) (rest := []) ⟨hx, hb, hml, hown, hts⟩ (c_X8_checkRange l cl.toInt64 0 65535 h1 h2) (va_cwS 3 hts gX8_decode_X8_checkRange rfl rfl rfl (by decide +kernel) ⟨(Nat.le_of_ble_eq_true rfl), (Nat.le_of_ble_eq_true rfl)⟩) rfl hl.1 (lv_room (Nat.le_of_ble_eq_true rfl)) dX8_decode_6 ⟨Nat.zero_le _, Nat.zero_le _⟩ hS hA rfl (fun locs hS => ?_)
  refine lv_iload_n hx hb dX8_decode_9 rfl (lv_at hl 2 rfl) ?_
  refine lv_i2l hx hb dX8_decode_10 rfl ?_
  refine lv_lconst (v := 0) hx hb dX8_decode_11 (by decide) ?_
  refine lv_lconst (v := 1) hx hb dX8_decode_12 (by decide) ?_
  refine pu_callv (As := [.long b.toInt64, .long 0, .long 1]) (rest := []) ⟨hx, hb, hml, hown, hts⟩ (c_X8_checkRange l b.toInt64 0 1 h3 h4) (va_cwS 3 hts gX8_decode_X8_checkRange rfl rfl rfl (by decide +kernel) ⟨(Nat.le_of_ble_eq_true rfl), (Nat.le_of_ble_eq_true rfl)⟩) rfl hl.1 (lv_room (Nat.le_of_ble_eq_true rfl)) dX8_decode_13 ⟨Nat.zero_le _, Nat.zero_le _⟩ hS hA rfl (fun locs hS => ?_)
  refine lv_iload_n hx hb dX8_decode_16 rfl (lv_at hl 1 rfl) ?_
  refine pu_calli (As := [.int cl]) (rest := []) ⟨hx, hb, hml, hown, hts⟩ (c_X1_dataOf l cl) (va_cwS 1 hts gX8_decode_X1_dataOf rfl rfl rfl (by decide +kernel) ⟨(Nat.le_of_ble_eq_true rfl), (Nat.le_of_ble_eq_true rfl)⟩) rfl hl.1 (lv_room (Nat.le_of_ble_eq_true rfl)) dX8_decode_17 ⟨Nat.zero_le _, Nat.zero_le _⟩ hS hA rfl (fun locs hS => ?_)
  refine lv_istore_n (lv' := [(3, .int (fData cl)), (0, .ref o), (1, .int cl), (2, .int b)]) hx hb dX8_decode_20 rfl hl (by decide) rfl (fun ls hl => ?_)
  refine lv_iload_n hx hb dX8_decode_21 rfl (lv_at hl 0 rfl) ?_
  refine lv_iload_n hx hb dX8_decode_22 rfl (lv_at hl 3 rfl) ?_
  refine pu_calli (As := [.int (fData cl), .int b]) (rest := []) ⟨hx, hb, hml, hown, hts⟩ (c_X1_ofByte l (fData cl) b) (va_cwS 2 hts gX8_decode_X1_ofByte rfl rfl rfl (by decide +kernel) ⟨(Nat.le_of_ble_eq_true rfl), (Nat.le_of_ble_eq_true rfl)⟩) rfl hl.1 (lv_room (Nat.le_of_ble_eq_true rfl)) dX8_decode_23 ⟨Nat.zero_le _, Nat.zero_le _⟩ hS hA rfl (fun locs hS => ?_)
  refine lv_iload_n hx hb dX8_decode_26 rfl (lv_at hl 2 rfl) ?_
  refine lv_icmp_eq (tgt := 38) hx hb dX8_decode_27 (by decide) (fun c_27 => ?_) (fun c_27 => absurd c_27 (fun h => h he))
  refine lv_iload_n hx hb dX8_decode_38 rfl (lv_at hl 0 rfl) ?_
  exact W.iret (v := (fData cl)) hx hb hr (fun t ht hW => ⟨⟨(fData cl), (), rfl, rfl, ht⟩, hS.F ht⟩) hS.2.2 dX8_decode_39
set_option maxHeartbeats 4000000 in
set_option maxRecDepth 100000 in
theorem x_X8_decode_1 (l : Launch) (hstk : l.stackTraces = false) (o : Nat) (cl b : Int32) (h : cl.toInt64 < 0 ∨ 65535 < cl.toInt64) : px_i l yX8_decode wsX8_decode ({ frames := 7, cells := 1, slots := 6, locals := 106 } : Room) [.ref o, .int cl, .int b] "java/lang/IllegalArgumentException" := by
  intro H0
  refine vx_ofW (cc := cX8_decode) (maxL := 4) (ret := (some .int)) (by decide) rfl ?_
  intro p e s m args below meth c s₁ B hml ht hv
  obtain ⟨rfl, rfl, hX⟩ := hv
  have hx := B.exec
  have hb := B.bytes
  have hr := B.returns
  have hts := atoms_spec (ws := wsX8_decode) B.pre
  have hown : s.vm.findClass RX8 = some m.cls := findClass_of_methodNamed B.named
  have hlocks := B.notSynchronized
  have hS : va_S (xA s) s.heap s.heap [] := va_S.rf
  have hA : ∀ q : Nat, s.heap.size ≤ q → xA s q := fun _ h => h
  have hl := lv_entry ([.ref o, .int cl, .int b]) (n := 4) (Nat.le_of_ble_eq_true rfl)
  rw [lg_entry_eq]
  generalize (lg_sl ([.ref o, .int cl, .int b]) ++ List.replicate (4 - (lg_sl ([.ref o, .int cl, .int b])).length) Slot.unset).toArray = ls at hl ⊢
  have hl : lv_has ls 4 [(0, .ref o), (1, .int cl), (2, .int b)] := hl
  refine lv_iload_n hx hb dX8_decode_0 rfl (lv_at hl 1 rfl) ?_
  refine lv_i2l hx hb dX8_decode_1 rfl ?_
  refine lv_lconst (v := 0) hx hb dX8_decode_2 (by decide) ?_
  refine lv_ldc2 (v := 65535) hx hb hown (hts (.constantLong RX8 51 65535) (by decide +kernel)) dX8_decode_3 ?_
  exact px_outv (As := [.long cl.toInt64, .long 0, .long 65535]) (rest := []) ⟨hx, hb, hml, hown, hts⟩ (x_X8_checkRange l hstk cl.toInt64 0 65535 h) (va_cwS 3 hts gX8_decode_X8_checkRange rfl rfl rfl (by decide +kernel) ⟨(Nat.le_of_ble_eq_true rfl), (Nat.le_of_ble_eq_true rfl)⟩) rfl hl.1 (lv_room (Nat.le_of_ble_eq_true rfl)) dX8_decode_6 ⟨(Nat.le_of_ble_eq_true rfl), (Nat.le_of_ble_eq_true rfl)⟩ hS rfl hX ht hlocks
set_option maxHeartbeats 4000000 in
set_option maxRecDepth 100000 in
theorem x_X8_decode_2 (l : Launch) (hstk : l.stackTraces = false) (o : Nat) (cl b : Int32) (h1 : ¬ cl.toInt64 < 0) (h2 : ¬ 65535 < cl.toInt64) (h3 : ¬ b.toInt64 < 0) (h4 : ¬ 1 < b.toInt64) (hne : ¬ fByte (fData cl) b = cl) : px_i l yX8_decode wsX8_decode ({ frames := 7, cells := 1, slots := 6, locals := 106 } : Room) [.ref o, .int cl, .int b] "java/util/NoSuchElementException" := by
  intro H0
  refine vx_ofW (cc := cX8_decode) (maxL := 4) (ret := (some .int)) (by decide) rfl ?_
  intro p e s m args below meth c s₁ B hml ht hv
  obtain ⟨rfl, rfl, hX⟩ := hv
  have hx := B.exec
  have hb := B.bytes
  have hr := B.returns
  have hts := atoms_spec (ws := wsX8_decode) B.pre
  have hown : s.vm.findClass RX8 = some m.cls := findClass_of_methodNamed B.named
  have hlocks := B.notSynchronized
  have hS : va_S (xA s) s.heap s.heap [] := va_S.rf
  have hA : ∀ q : Nat, s.heap.size ≤ q → xA s q := fun _ h => h
  have hl := lv_entry ([.ref o, .int cl, .int b]) (n := 4) (Nat.le_of_ble_eq_true rfl)
  rw [lg_entry_eq]
  generalize (lg_sl ([.ref o, .int cl, .int b]) ++ List.replicate (4 - (lg_sl ([.ref o, .int cl, .int b])).length) Slot.unset).toArray = ls at hl ⊢
  have hl : lv_has ls 4 [(0, .ref o), (1, .int cl), (2, .int b)] := hl
  refine lv_iload_n hx hb dX8_decode_0 rfl (lv_at hl 1 rfl) ?_
  refine lv_i2l hx hb dX8_decode_1 rfl ?_
  refine lv_lconst (v := 0) hx hb dX8_decode_2 (by decide) ?_
  refine lv_ldc2 (v := 65535) hx hb hown (hts (.constantLong RX8 51 65535) (by decide +kernel)) dX8_decode_3 ?_
  refine pu_callv (As := [.long cl.toInt64, .long 0, .long 65535]) (rest := []) ⟨hx, hb, hml, hown, hts⟩ (c_X8_checkRange l cl.toInt64 0 65535 h1 h2) (va_cwS 3 hts gX8_decode_X8_checkRange rfl rfl rfl (by decide +kernel) ⟨(Nat.le_of_ble_eq_true rfl), (Nat.le_of_ble_eq_true rfl)⟩) rfl hl.1 (lv_room (Nat.le_of_ble_eq_true rfl)) dX8_decode_6 ⟨Nat.zero_le _, Nat.zero_le _⟩ hS hA rfl (fun locs hS => ?_)
  refine lv_iload_n hx hb dX8_decode_9 rfl (lv_at hl 2 rfl) ?_
  refine lv_i2l hx hb dX8_decode_10 rfl ?_
  refine lv_lconst (v := 0) hx hb dX8_decode_11 (by decide) ?_
  refine lv_lconst (v := 1) hx hb dX8_decode_12 (by decide) ?_
  refine pu_callv (As := [.long b.toInt64, .long 0, .long 1]) (rest := []) ⟨hx, hb, hml, hown, hts⟩ (c_X8_checkRange l b.toInt64 0 1 h3 h4) (va_cwS 3 hts gX8_decode_X8_checkRange rfl rfl rfl (by decide +kernel) ⟨(Nat.le_of_ble_eq_true rfl), (Nat.le_of_ble_eq_true rfl)⟩) rfl hl.1 (lv_room (Nat.le_of_ble_eq_true rfl)) dX8_decode_13 ⟨Nat.zero_le _, Nat.zero_le _⟩ hS hA rfl (fun locs hS => ?_)
  refine lv_iload_n hx hb dX8_decode_16 rfl (lv_at hl 1 rfl) ?_
  refine pu_calli (As := [.int cl]) (rest := []) ⟨hx, hb, hml, hown, hts⟩ (c_X1_dataOf l cl) (va_cwS 1 hts gX8_decode_X1_dataOf rfl rfl rfl (by decide +kernel) ⟨(Nat.le_of_ble_eq_true rfl), (Nat.le_of_ble_eq_true rfl)⟩) rfl hl.1 (lv_room (Nat.le_of_ble_eq_true rfl)) dX8_decode_17 ⟨Nat.zero_le _, Nat.zero_le _⟩ hS hA rfl (fun locs hS => ?_)
  refine lv_istore_n (lv' := [(3, .int (fData cl)), (0, .ref o), (1, .int cl), (2, .int b)]) hx hb dX8_decode_20 rfl hl (by decide) rfl (fun ls hl => ?_)
  refine lv_iload_n hx hb dX8_decode_21 rfl (lv_at hl 0 rfl) ?_
  refine lv_iload_n hx hb dX8_decode_22 rfl (lv_at hl 3 rfl) ?_
  refine pu_calli (As := [.int (fData cl), .int b]) (rest := []) ⟨hx, hb, hml, hown, hts⟩ (c_X1_ofByte l (fData cl) b) (va_cwS 2 hts gX8_decode_X1_ofByte rfl rfl rfl (by decide +kernel) ⟨(Nat.le_of_ble_eq_true rfl), (Nat.le_of_ble_eq_true rfl)⟩) rfl hl.1 (lv_room (Nat.le_of_ble_eq_true rfl)) dX8_decode_23 ⟨Nat.zero_le _, Nat.zero_le _⟩ hS hA rfl (fun locs hS => ?_)
  refine lv_iload_n hx hb dX8_decode_26 rfl (lv_at hl 2 rfl) ?_
  refine lv_icmp_eq (tgt := 38) hx hb dX8_decode_27 (by decide) (fun c_27 => absurd c_27 hne) (fun c_27 => ?_)
  exact vx_throw0 (own := RX8) (cls := "java/util/NoSuchElementException") (names := xNames) (ik := 87) (ic := 89) (A := xA s) hx hb hstk hown (by decide) (by decide) (hts (.classLink RX8 87 "java/util/NoSuchElementException") (by decide +kernel)) (hts (.initialized "java/util/NoSuchElementException") (by decide +kernel)) (vx_hat (fun w hw => hts w (List.mem_cons_of_mem _ (List.mem_append_left _ (List.mem_append_right _ hw)))) xB_NSE (xK_B hX)) xgood_NSE hX.2.1 hX.2.2 hS (by rw [hml]; exact hl.1) dX8_decode_30 dX8_decode_33 dX8_decode_34 dX8_decode_37 (fun x hx => (ht x hx).elim) (Nat.le_of_ble_eq_true rfl) (Nat.le_of_ble_eq_true rfl) (Nat.le_of_ble_eq_true rfl) (Nat.le_of_ble_eq_true rfl) hlocks (fun t ha hz hk => ⟨(), trivial, rfl, hz, fun q h1 _ => hk q h1⟩) hS.2.2 (Nat.le_of_ble_eq_true rfl) (Nat.le_of_ble_eq_true rfl)
set_option maxHeartbeats 4000000 in
set_option maxRecDepth 100000 in
theorem x_X8_sample (l : Launch) (hstk : l.stackTraces = false) (o : Nat) (x : Int32) (h : x.toInt64 < -40 ∨ 40 < x.toInt64) : px_i l yX8_sample wsX8_sample ({ frames := 7, cells := 1, slots := 6, locals := 106 } : Room) [.ref o, .int x] "java/lang/IllegalArgumentException" := by
  intro H0
  refine vx_ofW (cc := cX8_sample) (maxL := 2) (ret := (some .int)) (by decide) rfl ?_
  intro p e s m args below meth c s₁ B hml ht hv
  obtain ⟨rfl, rfl, hX⟩ := hv
  have hx := B.exec
  have hb := B.bytes
  have hr := B.returns
  have hts := atoms_spec (ws := wsX8_sample) B.pre
  have hown : s.vm.findClass RX8 = some m.cls := findClass_of_methodNamed B.named
  have hlocks := B.notSynchronized
  have hS : va_S (xA s) s.heap s.heap [] := va_S.rf
  have hA : ∀ q : Nat, s.heap.size ≤ q → xA s q := fun _ h => h
  have hl := lv_entry ([.ref o, .int x]) (n := 2) (Nat.le_of_ble_eq_true rfl)
  rw [lg_entry_eq]
  generalize (lg_sl ([.ref o, .int x]) ++ List.replicate (2 - (lg_sl ([.ref o, .int x])).length) Slot.unset).toArray = ls at hl ⊢
  have hl : lv_has ls 2 [(0, .ref o), (1, .int x)] := hl
  refine lv_iload_n hx hb dX8_sample_0 rfl (lv_at hl 1 rfl) ?_
  refine lv_i2l hx hb dX8_sample_1 rfl ?_
  refine lv_ldc2 (v := (-40)) hx hb hown (hts (.constantLong RX8 90 (-40)) (by decide +kernel)) dX8_sample_2 ?_
  refine lv_ldc2 (v := 40) hx hb hown (hts (.constantLong RX8 92 40) (by decide +kernel)) dX8_sample_5 ?_
  exact px_outv (As := [.long x.toInt64, .long (-40), .long 40]) (rest := []) ⟨hx, hb, hml, hown, hts⟩ (x_X8_checkRange l hstk x.toInt64 (-40) 40 h) (va_cwS 3 hts gX8_sample_X8_checkRange rfl rfl rfl (by decide +kernel) ⟨(Nat.le_of_ble_eq_true rfl), (Nat.le_of_ble_eq_true rfl)⟩) rfl hl.1 (lv_room (Nat.le_of_ble_eq_true rfl)) dX8_sample_8 ⟨(Nat.le_of_ble_eq_true rfl), (Nat.le_of_ble_eq_true rfl)⟩ hS rfl hX ht hlocks
