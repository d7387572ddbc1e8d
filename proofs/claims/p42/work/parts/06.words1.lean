set_option maxHeartbeats 4000000 in
set_option maxRecDepth 100000 in
theorem c_X7_nibble (l : Launch) (w : Int64) (pl : Int32) : pc_i l yX7_nibble wsX7_nibble ({ frames := 0, cells := 0, slots := 0, locals := 0 } : Room) [.long w, .int pl] (fNib w pl) := by
  intro H0
  refine Met.ofW (cc := cX7_nibble) (maxL := 3) (ret := (some .int)) (by decide) rfl ?_
  intro p e s m args below meth c s₁ B hml hv
  obtain ⟨rfl, rfl⟩ := hv
  have hx := B.exec
  have hb := B.bytes
  have hr := B.returns
  have hts := atoms_spec (ws := wsX7_nibble) B.pre
  have hown : s.vm.findClass RX7 = some m.cls := findClass_of_methodNamed B.named
  have hlocks := B.notSynchronized
  have hS : va_S (fun q => s.heap.size ≤ q) s.heap s.heap [] := va_S.rf
  have hA : ∀ q : Nat, s.heap.size ≤ q → (fun q : Nat => s.heap.size ≤ q) q := fun _ h => h
  have hl := lv_entry ([.long w, .int pl]) (n := 3) (Nat.le_of_ble_eq_true rfl)
  rw [lg_entry_eq]
  generalize (lg_sl ([.long w, .int pl]) ++ List.replicate (3 - (lg_sl ([.long w, .int pl])).length) Slot.unset).toArray = ls at hl ⊢
  have hl : lv_has ls 3 [(0, .long w), (2, .int pl)] := hl
  refine lv_lload_n hx hb dX7_nibble_0 rfl (lv_at hl 0 rfl) ?_
  refine lv_iconst (v := 4) hx hb dX7_nibble_1 (by decide) ?_
  refine lv_iload_n hx hb dX7_nibble_2 rfl (lv_at hl 1 rfl) ?_
  refine lv_imul hx hb dX7_nibble_3 ?_
  refine lv_lushr hx hb dX7_nibble_4 rfl ?_
  refine lv_l2i hx hb dX7_nibble_5 rfl ?_
  refine lv_bipush (v := 15) hx hb dX7_nibble_6 (by decide) ?_
  refine lv_iand hx hb dX7_nibble_8 ?_
  exact W.iret (v := ((((w.toUInt64 >>> ((4 * pl).toInt64.toUInt64 &&& Int64.toUInt64 63)).toInt64).toInt32) &&& 15)) hx hb hr (fun t ht hW => ⟨⟨((((w.toUInt64 >>> ((4 * pl).toInt64.toUInt64 &&& Int64.toUInt64 63)).toInt64).toInt32) &&& 15), (), rfl, rfl, ht⟩, hS.F ht⟩) hS.2.2 dX7_nibble_9
set_option maxHeartbeats 4000000 in
set_option maxRecDepth 100000 in
theorem c_X7_turned (l : Launch) (w : Int64) (pl : Int32) (b : Int32) : pc_l l yX7_turned wsX7_turned ({ frames := 0, cells := 0, slots := 0, locals := 0 } : Room) [.long w, .int pl, .int b] (fTurn w pl b) := by
  intro H0
  refine Met.ofW (cc := cX7_turned) (maxL := 4) (ret := (some .long)) (by decide) rfl ?_
  intro p e s m args below meth c s₁ B hml hv
  obtain ⟨rfl, rfl⟩ := hv
  have hx := B.exec
  have hb := B.bytes
  have hr := B.returns
  have hts := atoms_spec (ws := wsX7_turned) B.pre
  have hown : s.vm.findClass RX7 = some m.cls := findClass_of_methodNamed B.named
  have hlocks := B.notSynchronized
  have hS : va_S (fun q => s.heap.size ≤ q) s.heap s.heap [] := va_S.rf
  have hA : ∀ q : Nat, s.heap.size ≤ q → (fun q : Nat => s.heap.size ≤ q) q := fun _ h => h
  have hl := lv_entry ([.long w, .int pl, .int b]) (n := 4) (Nat.le_of_ble_eq_true rfl)
  rw [lg_entry_eq]
  generalize (lg_sl ([.long w, .int pl, .int b]) ++ List.replicate (4 - (lg_sl ([.long w, .int pl, .int b])).length) Slot.unset).toArray = ls at hl ⊢
  have hl : lv_has ls 4 [(0, .long w), (2, .int pl), (3, .int b)] := hl
  refine lv_lload_n hx hb dX7_turned_0 rfl (lv_at hl 0 rfl) ?_
  refine lv_iload_n hx hb dX7_turned_1 rfl (lv_at hl 2 rfl) ?_
  refine lv_i2l hx hb dX7_turned_2 rfl ?_
  refine lv_iconst (v := 4) hx hb dX7_turned_3 (by decide) ?_
  refine lv_iload_n hx hb dX7_turned_4 rfl (lv_at hl 1 rfl) ?_
  refine lv_imul hx hb dX7_turned_5 ?_
  refine lv_lshl hx hb dX7_turned_6 rfl ?_
  refine lv_lxor hx hb dX7_turned_7 ?_
  exact W.lret (v := (w ^^^ (b.toInt64 <<< ((4 * pl).toInt64 &&& 63)))) hx hb hr (fun t ht hW => ⟨⟨(w ^^^ (b.toInt64 <<< ((4 * pl).toInt64 &&& 63))), (), rfl, rfl, ht⟩, hS.F ht⟩) hS.2.2 dX7_turned_8
set_option maxHeartbeats 4000000 in
set_option maxRecDepth 100000 in
theorem c_X7_valueOf (l : Launch) (w : Int64) : pc_i l yX7_valueOf wsX7_valueOf ({ frames := 0, cells := 0, slots := 0, locals := 0 } : Room) [.long w] (fVal w) := by
  intro H0
  refine Met.ofW (cc := cX7_valueOf) (maxL := 2) (ret := (some .int)) (by decide) rfl ?_
  intro p e s m args below meth c s₁ B hml hv
  obtain ⟨rfl, rfl⟩ := hv
  have hx := B.exec
  have hb := B.bytes
  have hr := B.returns
  have hts := atoms_spec (ws := wsX7_valueOf) B.pre
  have hown : s.vm.findClass RX7 = some m.cls := findClass_of_methodNamed B.named
  have hlocks := B.notSynchronized
  have hS : va_S (fun q => s.heap.size ≤ q) s.heap s.heap [] := va_S.rf
  have hA : ∀ q : Nat, s.heap.size ≤ q → (fun q : Nat => s.heap.size ≤ q) q := fun _ h => h
  have hl := lv_entry ([.long w]) (n := 2) (Nat.le_of_ble_eq_true rfl)
  rw [lg_entry_eq]
  generalize (lg_sl ([.long w]) ++ List.replicate (2 - (lg_sl ([.long w])).length) Slot.unset).toArray = ls at hl ⊢
  have hl : lv_has ls 2 [(0, .long w)] := hl
  refine lv_lload_n hx hb dX7_valueOf_0 rfl (lv_at hl 0 rfl) ?_
  refine lv_ldc2 (v := 65535) hx hb hown (hts (.constantLong RX7 19 65535) (by decide +kernel)) dX7_valueOf_1 ?_
  refine lv_land hx hb dX7_valueOf_4 ?_
  refine lv_l2i hx hb dX7_valueOf_5 rfl ?_
  exact W.iret (v := (w &&& 65535).toInt32) hx hb hr (fun t ht hW => ⟨⟨(w &&& 65535).toInt32, (), rfl, rfl, ht⟩, hS.F ht⟩) hS.2.2 dX7_valueOf_6
set_option maxHeartbeats 4000000 in
set_option maxRecDepth 100000 in
theorem c_L_nibble (l : Launch) (w : Int64) (pl : Int32) : pc_i l yL_nibble wsL_nibble ({ frames := 0, cells := 0, slots := 0, locals := 0 } : Room) [.long w, .int pl] (gNib w pl) := by
  intro H0
  refine Met.ofW (cc := cL_nibble) (maxL := 3) (ret := (some .int)) (by decide) rfl ?_
  intro p e s m args below meth c s₁ B hml hv
  obtain ⟨rfl, rfl⟩ := hv
  have hx := B.exec
  have hb := B.bytes
  have hr := B.returns
  have hts := atoms_spec (ws := wsL_nibble) B.pre
  have hown : s.vm.findClass RL = some m.cls := findClass_of_methodNamed B.named
  have hlocks := B.notSynchronized
  have hS : va_S (fun q => s.heap.size ≤ q) s.heap s.heap [] := va_S.rf
  have hA : ∀ q : Nat, s.heap.size ≤ q → (fun q : Nat => s.heap.size ≤ q) q := fun _ h => h
  have hl := lv_entry ([.long w, .int pl]) (n := 3) (Nat.le_of_ble_eq_true rfl)
  rw [lg_entry_eq]
  generalize (lg_sl ([.long w, .int pl]) ++ List.replicate (3 - (lg_sl ([.long w, .int pl])).length) Slot.unset).toArray = ls at hl ⊢
  have hl : lv_has ls 3 [(0, .long w), (2, .int pl)] := hl
  refine lv_lload_n hx hb dL_nibble_0 rfl (lv_at hl 0 rfl) ?_
  refine lv_iconst (v := 4) hx hb dL_nibble_1 (by decide) ?_
  refine lv_iload_n hx hb dL_nibble_2 rfl (lv_at hl 1 rfl) ?_
  refine lv_imul hx hb dL_nibble_3 ?_
  refine lv_lshr hx hb dL_nibble_4 rfl ?_
  refine lv_ldc2 (v := 15) hx hb hown (hts (.constantLong RL 50 15) (by decide +kernel)) dL_nibble_5 ?_
  refine lv_land hx hb dL_nibble_8 ?_
  refine lv_l2i hx hb dL_nibble_9 rfl ?_
  exact W.iret (v := ((w >>> ((4 * pl).toInt64 &&& 63)) &&& 15).toInt32) hx hb hr (fun t ht hW => ⟨⟨((w >>> ((4 * pl).toInt64 &&& 63)) &&& 15).toInt32, (), rfl, rfl, ht⟩, hS.F ht⟩) hS.2.2 dL_nibble_10
set_option maxHeartbeats 4000000 in
set_option maxRecDepth 100000 in
theorem c_X7_times (l : Launch) (a : Int32) (b : Int32) : pc_i l yX7_times wsX7_times ({ frames := 0, cells := 0, slots := 0, locals := 0 } : Room) [.int a, .int b] (fTimes a b) := by
  intro H0
  refine Met.ofW (cc := cX7_times) (maxL := 4) (ret := (some .int)) (by decide) rfl ?_
  intro p e s m args below meth c s₁ B hml hv
  obtain ⟨rfl, rfl⟩ := hv
  have hx := B.exec
  have hb := B.bytes
  have hr := B.returns
  have hts := atoms_spec (ws := wsX7_times) B.pre
  have hown : s.vm.findClass RX7 = some m.cls := findClass_of_methodNamed B.named
  have hlocks := B.notSynchronized
  have hS : va_S (fun q => s.heap.size ≤ q) s.heap s.heap [] := va_S.rf
  have hA : ∀ q : Nat, s.heap.size ≤ q → (fun q : Nat => s.heap.size ≤ q) q := fun _ h => h
  have hl := lv_entry ([.int a, .int b]) (n := 4) (Nat.le_of_ble_eq_true rfl)
  rw [lg_entry_eq]
  generalize (lg_sl ([.int a, .int b]) ++ List.replicate (4 - (lg_sl ([.int a, .int b])).length) Slot.unset).toArray = ls at hl ⊢
  have hl : lv_has ls 4 [(0, .int a), (1, .int b)] := hl
  have l2 : ∀ (n : Nat) (q : Int32), n ≤ 3 → fTi2 n q = fTimes a b → ∀ (locs : List Loc) (ls : Array Slot), va_S (fun q => s.heap.size ≤ q) s.heap s.heap locs → lv_has ls 4 [(0, .int a), (1, .int b), (2, .int q), (3, .int (nI (n + 3)))] → pW_i p l e wsX7_times ({ frames := 0, cells := 0, slots := 0, locals := 0 } : Room) s m ([.int a, .int b] : List Value).toArray below meth c (fTimes a b) locs (F0 m 33 ls []) := by
    intro n
    induction n with
    | zero =>
      intro q hn hres locs ls hS hl
      refine lv_iload_n hx hb dX7_times_33 rfl (lv_at hl 3 rfl) ?_
      refine lv_iconst (v := 4) hx hb dX7_times_34 (by decide) ?_
      refine lv_icmp_lt (tgt := 62) hx hb dX7_times_35 (by decide) (fun c_35 => ?_) (fun c_35 => absurd c_35 (by decide))
      refine lv_iload_n hx hb dX7_times_62 rfl (lv_at hl 2 rfl) ?_
      exact W.iret (v := q) hx hb hr (fun t ht hW => ⟨⟨q, (), rfl, hres, ht⟩, hS.F ht⟩) hS.2.2 dX7_times_63
    | succ n ih =>
      intro q hn hres locs ls hS hl
      refine lv_iload_n hx hb dX7_times_33 rfl (lv_at hl 3 rfl) ?_
      refine lv_iconst (v := 4) hx hb dX7_times_34 (by decide) ?_
      refine lv_icmp_lt (tgt := 62) hx hb dX7_times_35 (by decide) (fun c_35 => absurd c_35 (nI_nlt (a := n + 1 + 3) (b := 4) (by omega) (by omega))) (fun c_35 => ?_)
      refine lv_iload_n hx hb dX7_times_38 rfl (lv_at hl 2 rfl) ?_
      refine lv_iload_n hx hb dX7_times_39 rfl (lv_at hl 3 rfl) ?_
      refine lv_ishr hx hb dX7_times_40 ?_
      refine lv_iconst (v := 1) hx hb dX7_times_41 (by decide) ?_
      refine lv_iand hx hb dX7_times_42 ?_
      refine lv_iconst (v := 1) hx hb dX7_times_43 (by decide) ?_
      refine lv_icmp_ne (tgt := 56) hx hb dX7_times_44 (by decide) (fun c_44 => ?_) (fun c_44 => ?_)
      · refine lv_iinc (v := (nI (n + 1 + 3)) + (-1)) (lv' := [(3, .int ((nI (n + 1 + 3)) + (-1))), (0, .int a), (1, .int b), (2, .int q)]) hx hb dX7_times_56 hl (k := 3) rfl rfl (by decide) rfl (fun ls hl => ?_)
        refine lv_goto (tgt := 33) hx hb dX7_times_59 (by decide) ?_
        refine ih _ (Nat.le_of_succ_le hn) (by rw [fTi2, if_neg c_44] at hres; exact hres) _ ls hS ?_
        have hl := (lv_sub (l' := [(0, .int a), (1, .int b), (2, .int q), (3, .int ((nI (n + 1 + 3)) + (-1)))]) hl [1, 2, 3, 0] rfl)
        rw [show nI (n + 1 + 3) + (-1) = nI (n + 3) from pk_m1 (n + 3)] at hl
        exact hl
      · refine lv_iload_n hx hb dX7_times_47 rfl (lv_at hl 2 rfl) ?_
        refine lv_bipush (v := 19) hx hb dX7_times_48 (by decide) ?_
        refine lv_iload_n hx hb dX7_times_50 rfl (lv_at hl 3 rfl) ?_
        refine lv_iconst (v := 4) hx hb dX7_times_51 (by decide) ?_
        refine lv_isub hx hb dX7_times_52 ?_
        refine lv_ishl hx hb dX7_times_53 ?_
        refine lv_ixor hx hb dX7_times_54 ?_
        refine lv_istore_n (lv' := [(2, .int (q ^^^ ((19 : Int32) <<< (((nI (n + 1 + 3)) - 4) &&& 31)))), (0, .int a), (1, .int b), (3, .int (nI (n + 1 + 3)))]) hx hb dX7_times_55 rfl hl (by decide) rfl (fun ls hl => ?_)
        refine lv_iinc (v := (nI (n + 1 + 3)) + (-1)) (lv' := [(3, .int ((nI (n + 1 + 3)) + (-1))), (2, .int (q ^^^ ((19 : Int32) <<< (((nI (n + 1 + 3)) - 4) &&& 31)))), (0, .int a), (1, .int b)]) hx hb dX7_times_56 hl (k := 3) rfl rfl (by decide) rfl (fun ls hl => ?_)
        refine lv_goto (tgt := 33) hx hb dX7_times_59 (by decide) ?_
        refine ih _ (Nat.le_of_succ_le hn) (by rw [fTi2, if_pos c_44] at hres; exact hres) _ ls hS ?_
        have hl := (lv_sub (l' := [(0, .int a), (1, .int b), (2, .int (q ^^^ ((19 : Int32) <<< (((nI (n + 1 + 3)) - 4) &&& 31)))), (3, .int ((nI (n + 1 + 3)) + (-1)))]) hl [2, 3, 1, 0] rfl)
        rw [show nI (n + 1 + 3) + (-1) = nI (n + 3) from pk_m1 (n + 3)] at hl
        exact hl
  have l1 : ∀ (n k : Nat) (q : Int32), k + n = 4 → fTi2 3 (fTi1 a b n k q) = fTimes a b → ∀ (locs : List Loc) (ls : Array Slot), va_S (fun q => s.heap.size ≤ q) s.heap s.heap locs → lv_has ls 4 [(0, .int a), (1, .int b), (2, .int q), (3, .int (nI k))] → pW_i p l e wsX7_times ({ frames := 0, cells := 0, slots := 0, locals := 0 } : Room) s m ([.int a, .int b] : List Value).toArray below meth c (fTimes a b) locs (F0 m 4 ls []) := by
    intro n
    induction n with
    | zero =>
      intro k q hk_l1  hres_l1 locs ls hS hl
      obtain rfl : k = 4 := by omega
      refine lv_iload_n hx hb dX7_times_4 rfl (lv_at hl 3 rfl) ?_
      refine lv_iconst (v := 4) hx hb dX7_times_5 (by decide) ?_
      refine lv_icmp_ge (tgt := 30) hx hb dX7_times_6 (by decide) (fun c_6 => ?_) (fun c_6 => absurd c_6 (by decide))
      refine lv_bipush (v := 6) hx hb dX7_times_30 (by decide) ?_
      refine lv_istore_n (lv' := [(3, .int 6), (0, .int a), (1, .int b), (2, .int q)]) hx hb dX7_times_32 rfl hl (by decide) rfl (fun ls hl => ?_)
      exact l2 3 _ (Nat.le_refl 3) hres_l1 _ ls hS (lv_sub hl [1, 2, 3, 0] rfl)
    | succ n ih =>
      intro k q hk_l1  hres_l1 locs ls hS hl
      refine lv_iload_n hx hb dX7_times_4 rfl (lv_at hl 3 rfl) ?_
      refine lv_iconst (v := 4) hx hb dX7_times_5 (by decide) ?_
      refine lv_icmp_ge (tgt := 30) hx hb dX7_times_6 (by decide) (fun c_6 => absurd c_6 (nI_ge (a := k) (b := 4) (by omega) (by omega))) (fun c_6 => ?_)
      refine lv_iload_n hx hb dX7_times_9 rfl (lv_at hl 1 rfl) ?_
      refine lv_iload_n hx hb dX7_times_10 rfl (lv_at hl 3 rfl) ?_
      refine lv_ishr hx hb dX7_times_11 ?_
      refine lv_iconst (v := 1) hx hb dX7_times_12 (by decide) ?_
      refine lv_iand hx hb dX7_times_13 ?_
      refine lv_iconst (v := 1) hx hb dX7_times_14 (by decide) ?_
      refine lv_icmp_ne (tgt := 24) hx hb dX7_times_15 (by decide) (fun c_15 => ?_) (fun c_15 => ?_)
      · refine lv_iinc (v := nI (k + 1)) (lv' := [(3, .int (nI (k + 1))), (0, .int a), (1, .int b), (2, .int q)]) hx hb dX7_times_24 hl (k := 3) rfl (nI_1 _) (by decide) rfl (fun ls hl => ?_)
        refine lv_goto (tgt := 4) hx hb dX7_times_27 (by decide) ?_
        exact ih (k + 1) _ (by omega) (by rw [fTi1, if_neg c_15] at hres_l1; exact hres_l1) _ ls hS (lv_sub hl [1, 2, 3, 0] rfl)
      · refine lv_iload_n hx hb dX7_times_18 rfl (lv_at hl 2 rfl) ?_
        refine lv_iload_n hx hb dX7_times_19 rfl (lv_at hl 0 rfl) ?_
        refine lv_iload_n hx hb dX7_times_20 rfl (lv_at hl 3 rfl) ?_
        refine lv_ishl hx hb dX7_times_21 ?_
        refine lv_ixor hx hb dX7_times_22 ?_
        refine lv_istore_n (lv' := [(2, .int (q ^^^ (a <<< ((nI k) &&& 31)))), (0, .int a), (1, .int b), (3, .int (nI k))]) hx hb dX7_times_23 rfl hl (by decide) rfl (fun ls hl => ?_)
        refine lv_iinc (v := nI (k + 1)) (lv' := [(3, .int (nI (k + 1))), (2, .int (q ^^^ (a <<< ((nI k) &&& 31)))), (0, .int a), (1, .int b)]) hx hb dX7_times_24 hl (k := 3) rfl (nI_1 _) (by decide) rfl (fun ls hl => ?_)
        refine lv_goto (tgt := 4) hx hb dX7_times_27 (by decide) ?_
        exact ih (k + 1) _ (by omega) (by rw [fTi1, if_pos c_15] at hres_l1; exact hres_l1) _ ls hS (lv_sub hl [2, 3, 1, 0] rfl)
  refine lv_iconst (v := 0) hx hb dX7_times_0 (by decide) ?_
  refine lv_istore_n (lv' := [(2, .int 0), (0, .int a), (1, .int b)]) hx hb dX7_times_1 rfl hl (by decide) rfl (fun ls hl => ?_)
  refine lv_iconst (v := 0) hx hb dX7_times_2 (by decide) ?_
  refine lv_istore_n (lv' := [(3, .int 0), (2, .int 0), (0, .int a), (1, .int b)]) hx hb dX7_times_3 rfl hl (by decide) rfl (fun ls hl => ?_)
  exact l1 4 0 0 rfl rfl _ ls hS (lv_sub hl [2, 3, 1, 0] rfl)
set_option maxHeartbeats 4000000 in
set_option maxRecDepth 100000 in
theorem c_X7_differences (l : Launch) (a : Int64) (b : Int64) : pc_i l yX7_differences wsX7_differences ({ frames := 1, cells := 0, slots := 0, locals := 22 } : Room) [.long a, .long b] (fDiff a b) := by
  intro H0
  refine Met.ofW (cc := cX7_differences) (maxL := 6) (ret := (some .int)) (by decide) rfl ?_
  intro p e s m args below meth c s₁ B hml hv
  obtain ⟨rfl, rfl⟩ := hv
  have hx := B.exec
  have hb := B.bytes
  have hr := B.returns
  have hts := atoms_spec (ws := wsX7_differences) B.pre
  have hown : s.vm.findClass RX7 = some m.cls := findClass_of_methodNamed B.named
  have hlocks := B.notSynchronized
  have hS : va_S (fun q => s.heap.size ≤ q) s.heap s.heap [] := va_S.rf
  have hA : ∀ q : Nat, s.heap.size ≤ q → (fun q : Nat => s.heap.size ≤ q) q := fun _ h => h
  have hl := lv_entry ([.long a, .long b]) (n := 6) (Nat.le_of_ble_eq_true rfl)
  rw [lg_entry_eq]
  generalize (lg_sl ([.long a, .long b]) ++ List.replicate (6 - (lg_sl ([.long a, .long b])).length) Slot.unset).toArray = ls at hl ⊢
  have hl : lv_has ls 6 [(0, .long a), (2, .long b)] := hl
  have l1 : ∀ (n k : Nat) (q : Int32), k + n = 8 → fDi a b n k q = fDiff a b → ∀ (locs : List Loc) (ls : Array Slot), va_S (fun q => s.heap.size ≤ q) s.heap s.heap locs → lv_has ls 6 [(0, .long a), (2, .long b), (4, .int q), (5, .int (nI k))] → pW_i p l e wsX7_differences ({ frames := 1, cells := 0, slots := 0, locals := 22 } : Room) s m ([.long a, .long b] : List Value).toArray below meth c (fDiff a b) locs (F0 m 6 ls []) := by
    intro n
    induction n with
    | zero =>
      intro k q hk_l1  hres_l1 locs ls hS hl
      obtain rfl : k = 8 := by omega
      refine lv_iload hx hb dX7_differences_6 (lv_at hl 3 rfl) ?_
      refine lv_bipush (v := 8) hx hb dX7_differences_8 (by decide) ?_
      refine lv_icmp_ge (tgt := 37) hx hb dX7_differences_10 (by decide) (fun c_10 => ?_) (fun c_10 => absurd c_10 (by decide))
      refine lv_iload hx hb dX7_differences_37 (lv_at hl 2 rfl) ?_
      exact W.iret (v := q) hx hb hr (fun t ht hW => ⟨⟨q, (), rfl, hres_l1, ht⟩, hS.F ht⟩) hS.2.2 dX7_differences_39
    | succ n ih =>
      intro k q hk_l1  hres_l1 locs ls hS hl
      refine lv_iload hx hb dX7_differences_6 (lv_at hl 3 rfl) ?_
      refine lv_bipush (v := 8) hx hb dX7_differences_8 (by decide) ?_
      refine lv_icmp_ge (tgt := 37) hx hb dX7_differences_10 (by decide) (fun c_10 => absurd c_10 (nI_ge (a := k) (b := 8) (by omega) (by omega))) (fun c_10 => ?_)
      refine lv_lload_n hx hb dX7_differences_13 rfl (lv_at hl 0 rfl) ?_
      refine lv_iload hx hb dX7_differences_14 (lv_at hl 3 rfl) ?_
      refine pu_calli (As := [.long a, .int (nI k)]) (rest := []) ⟨hx, hb, hml, hown, hts⟩ (c_X7_nibble l a (nI k)) (va_cwS 2 hts gX7_differences_X7_nibble rfl rfl rfl (by decide +kernel) ⟨(Nat.le_of_ble_eq_true rfl), (Nat.le_of_ble_eq_true rfl)⟩) rfl hl.1 (lv_room (Nat.le_of_ble_eq_true rfl)) dX7_differences_16 ⟨Nat.zero_le _, Nat.zero_le _⟩ hS hA rfl (fun locs hS => ?_)
      refine lv_lload_n hx hb dX7_differences_19 rfl (lv_at hl 1 rfl) ?_
      refine lv_iload hx hb dX7_differences_20 (lv_at hl 3 rfl) ?_
      refine pu_calli (As := [.long b, .int (nI k)]) (rest := [.int (fNib a (nI k))]) ⟨hx, hb, hml, hown, hts⟩ (c_X7_nibble l b (nI k)) (va_cwS 2 hts gX7_differences_X7_nibble rfl rfl rfl (by decide +kernel) ⟨(Nat.le_of_ble_eq_true rfl), (Nat.le_of_ble_eq_true rfl)⟩) rfl hl.1 (lv_room (Nat.le_of_ble_eq_true rfl)) dX7_differences_22 ⟨Nat.zero_le _, Nat.zero_le _⟩ hS hA rfl (fun locs hS => ?_)
      refine lv_icmp_eq (tgt := 31) hx hb dX7_differences_25 (by decide) (fun c_25 => ?_) (fun c_25 => ?_)
      · refine lv_iinc (v := nI (k + 1)) (lv' := [(5, .int (nI (k + 1))), (0, .long a), (2, .long b), (4, .int q)]) hx hb dX7_differences_31 hl (k := 3) rfl (nI_1 _) (by decide) rfl (fun ls hl => ?_)
        refine lv_goto (tgt := 6) hx hb dX7_differences_34 (by decide) ?_
        exact ih (k + 1) _ (by omega) (by rw [fDi, if_pos c_25] at hres_l1; exact hres_l1) _ ls hS (lv_sub hl [1, 2, 3, 0] rfl)
      · refine lv_iinc (v := q + 1) (lv' := [(4, .int (q + 1)), (0, .long a), (2, .long b), (5, .int (nI k))]) hx hb dX7_differences_28 hl (k := 2) rfl rfl (by decide) rfl (fun ls hl => ?_)
        refine lv_iinc (v := nI (k + 1)) (lv' := [(5, .int (nI (k + 1))), (4, .int (q + 1)), (0, .long a), (2, .long b)]) hx hb dX7_differences_31 hl (k := 3) rfl (nI_1 _) (by decide) rfl (fun ls hl => ?_)
        refine lv_goto (tgt := 6) hx hb dX7_differences_34 (by decide) ?_
        exact ih (k + 1) _ (by omega) (by rw [fDi, if_neg c_25] at hres_l1; exact hres_l1) _ ls hS (lv_sub hl [2, 3, 1, 0] rfl)
  refine lv_iconst (v := 0) hx hb dX7_differences_0 (by decide) ?_
  refine lv_istore (lv' := [(4, .int 0), (0, .long a), (2, .long b)]) hx hb dX7_differences_1 hl (by decide) rfl (fun ls hl => ?_)
  refine lv_iconst (v := 0) hx hb dX7_differences_3 (by decide) ?_
  refine lv_istore (lv' := [(5, .int 0), (4, .int 0), (0, .long a), (2, .long b)]) hx hb dX7_differences_4 hl (by decide) rfl (fun ls hl => ?_)
  exact l1 8 0 0 rfl rfl _ ls hS (lv_sub hl [2, 3, 1, 0] rfl)
set_option maxHeartbeats 4000000 in
set_option maxRecDepth 100000 in
theorem c_X7_sumsOf (l : Launch) (w : Int64) : pc_i l yX7_sumsOf wsX7_sumsOf ({ frames := 1, cells := 0, slots := 0, locals := 23 } : Room) [.long w] (fSums w) := by
  intro H0
  refine Met.ofW (cc := cX7_sumsOf) (maxL := 6) (ret := (some .int)) (by decide) rfl ?_
  intro p e s m args below meth c s₁ B hml hv
  obtain ⟨rfl, rfl⟩ := hv
  have hx := B.exec
  have hb := B.bytes
  have hr := B.returns
  have hts := atoms_spec (ws := wsX7_sumsOf) B.pre
  have hown : s.vm.findClass RX7 = some m.cls := findClass_of_methodNamed B.named
  have hlocks := B.notSynchronized
  have hS : va_S (fun q => s.heap.size ≤ q) s.heap s.heap [] := va_S.rf
  have hA : ∀ q : Nat, s.heap.size ≤ q → (fun q : Nat => s.heap.size ≤ q) q := fun _ h => h
  have hl := lv_entry ([.long w]) (n := 6) (Nat.le_of_ble_eq_true rfl)
  rw [lg_entry_eq]
  generalize (lg_sl ([.long w]) ++ List.replicate (6 - (lg_sl ([.long w])).length) Slot.unset).toArray = ls at hl ⊢
  have hl : lv_has ls 6 [(0, .long w)] := hl
  have l1 : ∀ (n k : Nat) (q : Int32), k + n = 4 → fSuO w n k q = fSums w → ∀ (locs : List Loc) (ls : Array Slot), va_S (fun q => s.heap.size ≤ q) s.heap s.heap locs → lv_has ls 6 [(0, .long w), (2, .int q), (3, .int (nI k))] → pW_i p l e wsX7_sumsOf ({ frames := 1, cells := 0, slots := 0, locals := 23 } : Room) s m ([.long w] : List Value).toArray below meth c (fSums w) locs (F0 m 4 ls []) := by
    intro n
    induction n with
    | zero =>
      intro k q hk_l1  hres_l1 locs ls hS hl
      obtain rfl : k = 4 := by omega
      refine lv_iload_n hx hb dX7_sumsOf_4 rfl (lv_at hl 2 rfl) ?_
      refine lv_iconst (v := 4) hx hb dX7_sumsOf_5 (by decide) ?_
      refine lv_icmp_ge (tgt := 59) hx hb dX7_sumsOf_6 (by decide) (fun c_6 => ?_) (fun c_6 => absurd c_6 (by decide))
      refine lv_iload_n hx hb dX7_sumsOf_59 rfl (lv_at hl 1 rfl) ?_
      exact W.iret (v := q) hx hb hr (fun t ht hW => ⟨⟨q, (), rfl, hres_l1, ht⟩, hS.F ht⟩) hS.2.2 dX7_sumsOf_60
    | succ n ih =>
      intro k q hk_l1  hres_l1 locs ls hS hl
      have l2 : ∀ (j : Nat) (z : Int32), j ≤ 8 → fSuI w (nI k) j z = fSuI w (nI k) 8 0 → ∀ (locs : List Loc) (ls : Array Slot), va_S (fun q => s.heap.size ≤ q) s.heap s.heap locs → lv_has ls 6 [(0, .long w), (2, .int q), (3, .int (nI k)), (4, .int z), (5, .int (nI j + (-1)))] → pW_i p l e wsX7_sumsOf ({ frames := 1, cells := 0, slots := 0, locals := 23 } : Room) s m ([.long w] : List Value).toArray below meth c (fSums w) locs (F0 m 16 ls []) := by
        intro j
        induction j with
        | zero =>
          intro z hk_l2 hres_l2 locs ls hS hl
          refine lv_iload hx hb dX7_sumsOf_16 (lv_at hl 4 rfl) ?_
          refine lv_if_lt (tgt := 44) hx hb dX7_sumsOf_18 (by decide) (fun c_18 => ?_) (fun c_18 => absurd c_18 (by decide))
          refine lv_iload_n hx hb dX7_sumsOf_44 rfl (lv_at hl 1 rfl) ?_
          refine lv_iload hx hb dX7_sumsOf_45 (lv_at hl 3 rfl) ?_
          refine lv_iconst (v := 4) hx hb dX7_sumsOf_47 (by decide) ?_
          refine lv_iload_n hx hb dX7_sumsOf_48 rfl (lv_at hl 2 rfl) ?_
          refine lv_imul hx hb dX7_sumsOf_49 ?_
          refine lv_ishl hx hb dX7_sumsOf_50 ?_
          refine lv_ior hx hb dX7_sumsOf_51 ?_
          refine lv_istore_n (lv' := [(2, .int (q ||| (z <<< ((4 * (nI k)) &&& 31)))), (0, .long w), (3, .int (nI k)), (4, .int z), (5, .int (nI 0 + (-1)))]) hx hb dX7_sumsOf_52 rfl hl (by decide) rfl (fun ls hl => ?_)
          refine lv_iinc (v := nI (k + 1)) (lv' := [(3, .int (nI (k + 1))), (2, .int (q ||| (z <<< ((4 * (nI k)) &&& 31)))), (0, .long w), (4, .int z), (5, .int (nI 0 + (-1)))]) hx hb dX7_sumsOf_53 hl (k := 2) rfl (nI_1 _) (by decide) rfl (fun ls hl => ?_)
          refine lv_goto (tgt := 4) hx hb dX7_sumsOf_56 (by decide) ?_
          exact ih (k + 1) _ (by omega) (by rw [fSuO, ← hres_l2] at hres_l1; exact hres_l1) _ ls hS (lv_sub hl [2, 1, 0] rfl)
        | succ j ih2 =>
          intro z hk_l2 hres_l2 locs ls hS hl
          rw [pk_m1 j] at hl
          refine lv_iload hx hb dX7_sumsOf_16 (lv_at hl 4 rfl) ?_
          refine lv_if_lt (tgt := 44) hx hb dX7_sumsOf_18 (by decide) (fun c_18 => absurd c_18 (nI_pos (n := j) (by omega))) (fun c_18 => ?_)
          refine lv_iload hx hb dX7_sumsOf_21 (lv_at hl 3 rfl) ?_
          refine lv_iconst (v := 1) hx hb dX7_sumsOf_23 (by decide) ?_
          refine lv_iload_n hx hb dX7_sumsOf_24 rfl (lv_at hl 2 rfl) ?_
          refine lv_ishl hx hb dX7_sumsOf_25 ?_
          refine pu_calli (As := [.int z, .int ((1 : Int32) <<< ((nI k) &&& 31))]) (rest := []) ⟨hx, hb, hml, hown, hts⟩ (c_X7_times l z ((1 : Int32) <<< ((nI k) &&& 31))) (va_cwS 2 hts gX7_sumsOf_X7_times rfl rfl rfl (by decide +kernel) ⟨(Nat.le_of_ble_eq_true rfl), (Nat.le_of_ble_eq_true rfl)⟩) rfl hl.1 (lv_room (Nat.le_of_ble_eq_true rfl)) dX7_sumsOf_26 ⟨Nat.zero_le _, Nat.zero_le _⟩ hS hA rfl (fun locs hS => ?_)
          refine lv_lload_n hx hb dX7_sumsOf_29 rfl (lv_at hl 0 rfl) ?_
          refine lv_iload hx hb dX7_sumsOf_30 (lv_at hl 4 rfl) ?_
          refine pu_calli (As := [.long w, .int (nI j)]) (rest := [.int (fTimes z ((1 : Int32) <<< ((nI k) &&& 31)))]) ⟨hx, hb, hml, hown, hts⟩ (c_X7_nibble l w (nI j)) (va_cwS 2 hts gX7_sumsOf_X7_nibble rfl rfl rfl (by decide +kernel) ⟨(Nat.le_of_ble_eq_true rfl), (Nat.le_of_ble_eq_true rfl)⟩) rfl hl.1 (lv_room (Nat.le_of_ble_eq_true rfl)) dX7_sumsOf_32 ⟨Nat.zero_le _, Nat.zero_le _⟩ hS hA rfl (fun locs hS => ?_)
          refine lv_ixor hx hb dX7_sumsOf_35 ?_
          refine lv_istore (lv' := [(4, .int ((fTimes z ((1 : Int32) <<< ((nI k) &&& 31))) ^^^ (fNib w (nI j)))), (0, .long w), (2, .int q), (3, .int (nI k)), (5, .int (nI j))]) hx hb dX7_sumsOf_36 hl (by decide) rfl (fun ls hl => ?_)
          refine lv_iinc (v := (nI j) + (-1)) (lv' := [(5, .int ((nI j) + (-1))), (4, .int ((fTimes z ((1 : Int32) <<< ((nI k) &&& 31))) ^^^ (fNib w (nI j)))), (0, .long w), (2, .int q), (3, .int (nI k))]) hx hb dX7_sumsOf_38 hl (k := 4) rfl rfl (by decide) rfl (fun ls hl => ?_)
          refine lv_goto (tgt := 16) hx hb dX7_sumsOf_41 (by decide) ?_
          exact ih2 _ (by omega) (by rw [fSuI] at hres_l2; exact hres_l2) _ ls hS (lv_sub hl [2, 3, 4, 1, 0] rfl)
      refine lv_iload_n hx hb dX7_sumsOf_4 rfl (lv_at hl 2 rfl) ?_
      refine lv_iconst (v := 4) hx hb dX7_sumsOf_5 (by decide) ?_
      refine lv_icmp_ge (tgt := 59) hx hb dX7_sumsOf_6 (by decide) (fun c_6 => absurd c_6 (nI_ge (a := k) (b := 4) (by omega) (by omega))) (fun c_6 => ?_)
      refine lv_iconst (v := 0) hx hb dX7_sumsOf_9 (by decide) ?_
      refine lv_istore (lv' := [(4, .int 0), (0, .long w), (2, .int q), (3, .int (nI k))]) hx hb dX7_sumsOf_10 hl (by decide) rfl (fun ls hl => ?_)
      refine lv_bipush (v := 7) hx hb dX7_sumsOf_12 (by decide) ?_
      refine lv_istore (lv' := [(5, .int 7), (4, .int 0), (0, .long w), (2, .int q), (3, .int (nI k))]) hx hb dX7_sumsOf_14 hl (by decide) rfl (fun ls hl => ?_)
      exact l2 8 0 (Nat.le_refl 8) rfl _ ls hS (lv_sub hl [2, 3, 4, 1, 0] rfl)
  refine lv_iconst (v := 0) hx hb dX7_sumsOf_0 (by decide) ?_
  refine lv_istore_n (lv' := [(2, .int 0), (0, .long w)]) hx hb dX7_sumsOf_1 rfl hl (by decide) rfl (fun ls hl => ?_)
  refine lv_iconst (v := 0) hx hb dX7_sumsOf_2 (by decide) ?_
  refine lv_istore_n (lv' := [(3, .int 0), (2, .int 0), (0, .long w)]) hx hb dX7_sumsOf_3 rfl hl (by decide) rfl (fun ls hl => ?_)
  exact l1 4 0 0 rfl rfl _ ls hS (lv_sub hl [2, 1, 0] rfl)
set_option maxHeartbeats 4000000 in
set_option maxRecDepth 100000 in
theorem c_X7_quotient (l : Launch) (pr : Int32) (fa : Int32) : pc_i l yX7_quotient wsX7_quotient ({ frames := 1, cells := 0, slots := 0, locals := 23 } : Room) [.int pr, .int fa] (fQuot pr fa) := by
  intro H0
  refine Met.ofW (cc := cX7_quotient) (maxL := 3) (ret := (some .int)) (by decide) rfl ?_
  intro p e s m args below meth c s₁ B hml hv
  obtain ⟨rfl, rfl⟩ := hv
  have hx := B.exec
  have hb := B.bytes
  have hr := B.returns
  have hts := atoms_spec (ws := wsX7_quotient) B.pre
  have hown : s.vm.findClass RX7 = some m.cls := findClass_of_methodNamed B.named
  have hlocks := B.notSynchronized
  have hS : va_S (fun q => s.heap.size ≤ q) s.heap s.heap [] := va_S.rf
  have hA : ∀ q : Nat, s.heap.size ≤ q → (fun q : Nat => s.heap.size ≤ q) q := fun _ h => h
  have hl := lv_entry ([.int pr, .int fa]) (n := 3) (Nat.le_of_ble_eq_true rfl)
  rw [lg_entry_eq]
  generalize (lg_sl ([.int pr, .int fa]) ++ List.replicate (3 - (lg_sl ([.int pr, .int fa])).length) Slot.unset).toArray = ls at hl ⊢
  have hl : lv_has ls 3 [(0, .int pr), (1, .int fa)] := hl
  have l1 : ∀ (n k : Nat) , k + n = 16 → fQu pr fa n k = fQuot pr fa → ∀ (locs : List Loc) (ls : Array Slot), va_S (fun q => s.heap.size ≤ q) s.heap s.heap locs → lv_has ls 3 [(0, .int pr), (1, .int fa), (2, .int (nI k))] → pW_i p l e wsX7_quotient ({ frames := 1, cells := 0, slots := 0, locals := 23 } : Room) s m ([.int pr, .int fa] : List Value).toArray below meth c (fQuot pr fa) locs (F0 m 2 ls []) := by
    intro n
    induction n with
    | zero =>
      intro k  hk_l1  hres_l1 locs ls hS hl
      obtain rfl : k = 16 := by omega
      refine lv_iload_n hx hb dX7_quotient_2 rfl (lv_at hl 2 rfl) ?_
      refine lv_bipush (v := 16) hx hb dX7_quotient_3 (by decide) ?_
      refine lv_icmp_ge (tgt := 25) hx hb dX7_quotient_5 (by decide) (fun c_5 => ?_) (fun c_5 => absurd c_5 (by decide))
      refine lv_iconst (v := 0) hx hb dX7_quotient_25 (by decide) ?_
      exact W.iret (v := 0) hx hb hr (fun t ht hW => ⟨⟨0, (), rfl, hres_l1, ht⟩, hS.F ht⟩) hS.2.2 dX7_quotient_26
    | succ n ih =>
      intro k  hk_l1  hres_l1 locs ls hS hl
      refine lv_iload_n hx hb dX7_quotient_2 rfl (lv_at hl 2 rfl) ?_
      refine lv_bipush (v := 16) hx hb dX7_quotient_3 (by decide) ?_
      refine lv_icmp_ge (tgt := 25) hx hb dX7_quotient_5 (by decide) (fun c_5 => absurd c_5 (nI_ge (a := k) (b := 16) (by omega) (by omega))) (fun c_5 => ?_)
      refine lv_iload_n hx hb dX7_quotient_8 rfl (lv_at hl 2 rfl) ?_
      refine lv_iload_n hx hb dX7_quotient_9 rfl (lv_at hl 1 rfl) ?_
      refine pu_calli (As := [.int (nI k), .int fa]) (rest := []) ⟨hx, hb, hml, hown, hts⟩ (c_X7_times l (nI k) fa) (va_cwS 2 hts gX7_quotient_X7_times rfl rfl rfl (by decide +kernel) ⟨(Nat.le_of_ble_eq_true rfl), (Nat.le_of_ble_eq_true rfl)⟩) rfl hl.1 (lv_room (Nat.le_of_ble_eq_true rfl)) dX7_quotient_10 ⟨Nat.zero_le _, Nat.zero_le _⟩ hS hA rfl (fun locs hS => ?_)
      refine lv_iload_n hx hb dX7_quotient_13 rfl (lv_at hl 0 rfl) ?_
      refine lv_icmp_ne (tgt := 19) hx hb dX7_quotient_14 (by decide) (fun c_14 => ?_) (fun c_14 => ?_)
      · refine lv_iinc (v := nI (k + 1)) (lv' := [(2, .int (nI (k + 1))), (0, .int pr), (1, .int fa)]) hx hb dX7_quotient_19 hl (k := 2) rfl (nI_1 _) (by decide) rfl (fun ls hl => ?_)
        refine lv_goto (tgt := 2) hx hb dX7_quotient_22 (by decide) ?_
        exact ih (k + 1) (by omega) (by rw [fQu, if_neg c_14] at hres_l1; exact hres_l1) _ ls hS (lv_sub hl [1, 2, 0] rfl)
      · refine lv_iload_n hx hb dX7_quotient_17 rfl (lv_at hl 2 rfl) ?_
        exact W.iret (v := nI k) hx hb hr (fun t ht hW => ⟨⟨nI k, (), rfl, (by rw [fQu, if_pos c_14] at hres_l1; exact hres_l1), ht⟩, hS.F ht⟩) hS.2.2 dX7_quotient_18
  refine lv_iconst (v := 0) hx hb dX7_quotient_0 (by decide) ?_
  refine lv_istore_n (lv' := [(2, .int 0), (0, .int pr), (1, .int fa)]) hx hb dX7_quotient_1 rfl hl (by decide) rfl (fun ls hl => ?_)
  exact l1 16 0 rfl rfl _ ls hS (lv_sub hl [1, 2, 0] rfl)
set_option maxHeartbeats 4000000 in
set_option maxRecDepth 100000 in
theorem c_X7_sumsWithout (l : Launch) (sums : Int32) (pls : Int32) : pc_i l yX7_sumsWithout wsX7_sumsWithout ({ frames := 1, cells := 0, slots := 0, locals := 23 } : Room) [.int sums, .int pls] (fSw sums pls) := by
  intro H0
  refine Met.ofW (cc := cX7_sumsWithout) (maxL := 8) (ret := (some .int)) (by decide) rfl ?_
  intro p e s m args below meth c s₁ B hml hv
  obtain ⟨rfl, rfl⟩ := hv
  have hx := B.exec
  have hb := B.bytes
  have hr := B.returns
  have hts := atoms_spec (ws := wsX7_sumsWithout) B.pre
  have hown : s.vm.findClass RX7 = some m.cls := findClass_of_methodNamed B.named
  have hlocks := B.notSynchronized
  have hS : va_S (fun q => s.heap.size ≤ q) s.heap s.heap [] := va_S.rf
  have hA : ∀ q : Nat, s.heap.size ≤ q → (fun q : Nat => s.heap.size ≤ q) q := fun _ h => h
  have hl := lv_entry ([.int sums, .int pls]) (n := 8) (Nat.le_of_ble_eq_true rfl)
  rw [lg_entry_eq]
  generalize (lg_sl ([.int sums, .int pls]) ++ List.replicate (8 - (lg_sl ([.int sums, .int pls])).length) Slot.unset).toArray = ls at hl ⊢
  have hl : lv_has ls 8 [(0, .int sums), (1, .int pls)] := hl
  have l1 : ∀ (n k : Nat) (q : Int32) (d : Nat), k + n = 8 → d ≤ k → fSwO pls n k q d = fSw sums pls → ∀ (locs : List Loc) (ls : Array Slot), va_S (fun q => s.heap.size ≤ q) s.heap s.heap locs → lv_has ls 8 [(0, .int sums), (1, .int pls), (2, .int q), (3, .int (fLen d)), (4, .int (nI k))] → pW_i p l e wsX7_sumsWithout ({ frames := 1, cells := 0, slots := 0, locals := 23 } : Room) s m ([.int sums, .int pls] : List Value).toArray below meth c (fSw sums pls) locs (F0 m 7 ls []) := by
    intro n
    induction n with
    | zero =>
      intro k q d hk_l1 hd hres_l1 locs ls hS hl
      obtain rfl : k = 8 := by omega
      refine lv_iload hx hb dX7_sumsWithout_7 (lv_at hl 4 rfl) ?_
      refine lv_bipush (v := 8) hx hb dX7_sumsWithout_9 (by decide) ?_
      refine lv_icmp_ge (tgt := 96) hx hb dX7_sumsWithout_11 (by decide) (fun c_11 => ?_) (fun c_11 => absurd c_11 (by decide))
      refine lv_iload_n hx hb dX7_sumsWithout_96 rfl (lv_at hl 2 rfl) ?_
      exact W.iret (v := q) hx hb hr (fun t ht hW => ⟨⟨q, (), rfl, hres_l1, ht⟩, hS.F ht⟩) hS.2.2 dX7_sumsWithout_97
    | succ n ih =>
      intro k q d hk_l1 hd hres_l1 locs ls hS hl
      have l2 : (pls >>> (nI k &&& 31)) &&& 1 = 1 → ∀ (n2 j : Nat) (z : Int32), j + n2 = 4 → fSwI q (fNib 3160638497 (nI k)) (fLen (d + 1)) n2 j z = fSwI q (fNib 3160638497 (nI k)) (fLen (d + 1)) 4 0 0 → ∀ (locs : List Loc) (ls : Array Slot), va_S (fun q => s.heap.size ≤ q) s.heap s.heap locs → lv_has ls 8 [(0, .int sums), (1, .int pls), (2, .int q), (3, .int (fLen (d + 1))), (4, .int (nI k)), (5, .int (fNib 3160638497 (nI k))), (6, .int z), (7, .int (nI j))] → pW_i p l e wsX7_sumsWithout ({ frames := 1, cells := 0, slots := 0, locals := 23 } : Room) s m ([.int sums, .int pls] : List Value).toArray below meth c (fSw sums pls) locs (F0 m 43 ls []) := by
        intro c_21 n2
        induction n2 with
        | zero =>
          intro j z hj hres_l2 locs ls hS hl
          obtain rfl : j = 4 := by omega
          refine lv_iload hx hb dX7_sumsWithout_43 (lv_at hl 7 rfl) ?_
          refine lv_iload_n hx hb dX7_sumsWithout_45 rfl (lv_at hl 3 rfl) ?_
          refine lv_icmp_ge (tgt := 87) hx hb dX7_sumsWithout_46 (by decide) (fun c_46 => ?_) (fun c_46 => absurd (fLen_le (d + 1) (by omega)) c_46)
          refine lv_iload hx hb dX7_sumsWithout_87 (lv_at hl 6 rfl) ?_
          refine lv_istore_n (lv' := [(2, .int z), (0, .int sums), (1, .int pls), (3, .int (fLen (d + 1))), (4, .int (nI k)), (5, .int (fNib 3160638497 (nI k))), (6, .int z), (7, .int (nI 4))]) hx hb dX7_sumsWithout_89 rfl hl (by decide) rfl (fun ls hl => ?_)
          refine lv_iinc (v := nI (k + 1)) (lv' := [(4, .int (nI (k + 1))), (2, .int z), (0, .int sums), (1, .int pls), (3, .int (fLen (d + 1))), (5, .int (fNib 3160638497 (nI k))), (6, .int z), (7, .int (nI 4))]) hx hb dX7_sumsWithout_90 hl (k := 4) rfl (nI_1 _) (by decide) rfl (fun ls hl => ?_)
          refine lv_goto (tgt := 7) hx hb dX7_sumsWithout_93 (by decide) ?_
          exact ih (k + 1) _ (d + 1) (by omega) (by omega) (by rw [fSwO, if_pos c_21, ← hres_l2] at hres_l1; exact hres_l1) _ ls hS (lv_sub hl [2, 3, 1, 4, 0] rfl)
        | succ n2 ih2 =>
          intro j z hj hres_l2 locs ls hS hl
          refine lv_iload hx hb dX7_sumsWithout_43 (lv_at hl 7 rfl) ?_
          refine lv_iload_n hx hb dX7_sumsWithout_45 rfl (lv_at hl 3 rfl) ?_
          refine lv_icmp_ge (tgt := 87) hx hb dX7_sumsWithout_46 (by decide) (fun c_46 => ?_) (fun c_46 => ?_)
          · refine lv_iload hx hb dX7_sumsWithout_87 (lv_at hl 6 rfl) ?_
            refine lv_istore_n (lv' := [(2, .int z), (0, .int sums), (1, .int pls), (3, .int (fLen (d + 1))), (4, .int (nI k)), (5, .int (fNib 3160638497 (nI k))), (6, .int z), (7, .int (nI j))]) hx hb dX7_sumsWithout_89 rfl hl (by decide) rfl (fun ls hl => ?_)
            refine lv_iinc (v := nI (k + 1)) (lv' := [(4, .int (nI (k + 1))), (2, .int z), (0, .int sums), (1, .int pls), (3, .int (fLen (d + 1))), (5, .int (fNib 3160638497 (nI k))), (6, .int z), (7, .int (nI j))]) hx hb dX7_sumsWithout_90 hl (k := 4) rfl (nI_1 _) (by decide) rfl (fun ls hl => ?_)
            refine lv_goto (tgt := 7) hx hb dX7_sumsWithout_93 (by decide) ?_
            exact ih (k + 1) _ (d + 1) (by omega) (by omega) (by rw [fSwI, if_neg (Int32.not_lt.mpr c_46)] at hres_l2; rw [fSwO, if_pos c_21, ← hres_l2] at hres_l1; exact hres_l1) _ ls hS (lv_sub hl [2, 3, 1, 4, 0] rfl)
          · refine lv_iload hx hb dX7_sumsWithout_49 (lv_at hl 6 rfl) ?_
            refine lv_iload_n hx hb dX7_sumsWithout_51 rfl (lv_at hl 2 rfl) ?_
            refine lv_i2l hx hb dX7_sumsWithout_52 rfl ?_
            refine lv_iload hx hb dX7_sumsWithout_53 (lv_at hl 7 rfl) ?_
            refine lv_iconst (v := 1) hx hb dX7_sumsWithout_55 (by decide) ?_
            refine lv_iadd hx hb dX7_sumsWithout_56 ?_
            refine pu_calli (As := [.long q.toInt64, .int ((nI j) + 1)]) (rest := [.int z]) ⟨hx, hb, hml, hown, hts⟩ (c_X7_nibble l q.toInt64 ((nI j) + 1)) (va_cwS 2 hts gX7_sumsWithout_X7_nibble rfl rfl rfl (by decide +kernel) ⟨(Nat.le_of_ble_eq_true rfl), (Nat.le_of_ble_eq_true rfl)⟩) rfl hl.1 (lv_room (Nat.le_of_ble_eq_true rfl)) dX7_sumsWithout_57 ⟨Nat.zero_le _, Nat.zero_le _⟩ hS hA rfl (fun locs hS => ?_)
            refine lv_iload_n hx hb dX7_sumsWithout_60 rfl (lv_at hl 2 rfl) ?_
            refine lv_i2l hx hb dX7_sumsWithout_61 rfl ?_
            refine lv_iload hx hb dX7_sumsWithout_62 (lv_at hl 7 rfl) ?_
            refine pu_calli (As := [.long q.toInt64, .int (nI j)]) (rest := [.int (fNib q.toInt64 ((nI j) + 1)), .int z]) ⟨hx, hb, hml, hown, hts⟩ (c_X7_nibble l q.toInt64 (nI j)) (va_cwS 2 hts gX7_sumsWithout_X7_nibble rfl rfl rfl (by decide +kernel) ⟨(Nat.le_of_ble_eq_true rfl), (Nat.le_of_ble_eq_true rfl)⟩) rfl hl.1 (lv_room (Nat.le_of_ble_eq_true rfl)) dX7_sumsWithout_64 ⟨Nat.zero_le _, Nat.zero_le _⟩ hS hA rfl (fun locs hS => ?_)
            refine lv_iload hx hb dX7_sumsWithout_67 (lv_at hl 5 rfl) ?_
            refine pu_calli (As := [.int (fNib q.toInt64 (nI j)), .int (fNib 3160638497 (nI k))]) (rest := [.int (fNib q.toInt64 ((nI j) + 1)), .int z]) ⟨hx, hb, hml, hown, hts⟩ (c_X7_times l (fNib q.toInt64 (nI j)) (fNib 3160638497 (nI k))) (va_cwS 2 hts gX7_sumsWithout_X7_times rfl rfl rfl (by decide +kernel) ⟨(Nat.le_of_ble_eq_true rfl), (Nat.le_of_ble_eq_true rfl)⟩) rfl hl.1 (lv_room (Nat.le_of_ble_eq_true rfl)) dX7_sumsWithout_69 ⟨Nat.zero_le _, Nat.zero_le _⟩ hS hA rfl (fun locs hS => ?_)
            refine lv_ixor hx hb dX7_sumsWithout_72 ?_
            refine lv_iconst (v := 4) hx hb dX7_sumsWithout_73 (by decide) ?_
            refine lv_iload hx hb dX7_sumsWithout_74 (lv_at hl 7 rfl) ?_
            refine lv_imul hx hb dX7_sumsWithout_76 ?_
            refine lv_ishl hx hb dX7_sumsWithout_77 ?_
            refine lv_ior hx hb dX7_sumsWithout_78 ?_
            refine lv_istore (lv' := [(6, .int (z ||| (((fNib q.toInt64 ((nI j) + 1)) ^^^ (fTimes (fNib q.toInt64 (nI j)) (fNib 3160638497 (nI k)))) <<< ((4 * (nI j)) &&& 31)))), (0, .int sums), (1, .int pls), (2, .int q), (3, .int (fLen (d + 1))), (4, .int (nI k)), (5, .int (fNib 3160638497 (nI k))), (7, .int (nI j))]) hx hb dX7_sumsWithout_79 hl (by decide) rfl (fun ls hl => ?_)
            refine lv_iinc (v := nI (j + 1)) (lv' := [(7, .int (nI (j + 1))), (6, .int (z ||| (((fNib q.toInt64 ((nI j) + 1)) ^^^ (fTimes (fNib q.toInt64 (nI j)) (fNib 3160638497 (nI k)))) <<< ((4 * (nI j)) &&& 31)))), (0, .int sums), (1, .int pls), (2, .int q), (3, .int (fLen (d + 1))), (4, .int (nI k)), (5, .int (fNib 3160638497 (nI k)))]) hx hb dX7_sumsWithout_81 hl (k := 7) rfl (nI_1 _) (by decide) rfl (fun ls hl => ?_)
            refine lv_goto (tgt := 43) hx hb dX7_sumsWithout_84 (by decide) ?_
            exact ih2 (j + 1) _ (by omega) (by rw [fSwI, if_pos (Int32.not_le.mp c_46)] at hres_l2; exact hres_l2) _ ls hS (lv_sub hl [2, 3, 4, 5, 6, 7, 1, 0] rfl)
      refine lv_iload hx hb dX7_sumsWithout_7 (lv_at hl 4 rfl) ?_
      refine lv_bipush (v := 8) hx hb dX7_sumsWithout_9 (by decide) ?_
      refine lv_icmp_ge (tgt := 96) hx hb dX7_sumsWithout_11 (by decide) (fun c_11 => absurd c_11 (nI_ge (a := k) (b := 8) (by omega) (by omega))) (fun c_11 => ?_)
      refine lv_iload_n hx hb dX7_sumsWithout_14 rfl (lv_at hl 1 rfl) ?_
      refine lv_iload hx hb dX7_sumsWithout_15 (lv_at hl 4 rfl) ?_
      refine lv_ishr hx hb dX7_sumsWithout_17 ?_
      refine lv_iconst (v := 1) hx hb dX7_sumsWithout_18 (by decide) ?_
      refine lv_iand hx hb dX7_sumsWithout_19 ?_
      refine lv_iconst (v := 1) hx hb dX7_sumsWithout_20 (by decide) ?_
      refine lv_icmp_ne (tgt := 90) hx hb dX7_sumsWithout_21 (by decide) (fun c_21 => ?_) (fun c_21 => ?_)
      · refine lv_iinc (v := nI (k + 1)) (lv' := [(4, .int (nI (k + 1))), (0, .int sums), (1, .int pls), (2, .int q), (3, .int (fLen d))]) hx hb dX7_sumsWithout_90 hl (k := 4) rfl (nI_1 _) (by decide) rfl (fun ls hl => ?_)
        refine lv_goto (tgt := 7) hx hb dX7_sumsWithout_93 (by decide) ?_
        exact ih (k + 1) _ d (by omega) (by omega) (by rw [fSwO, if_neg c_21] at hres_l1; exact hres_l1) _ ls hS (lv_sub hl [1, 2, 3, 4, 0] rfl)
      · refine lv_iinc (v := (fLen d) + (-1)) (lv' := [(3, .int ((fLen d) + (-1))), (0, .int sums), (1, .int pls), (2, .int q), (4, .int (nI k))]) hx hb dX7_sumsWithout_24 hl (k := 3) rfl rfl (by decide) rfl (fun ls hl => ?_)
        refine lv_ldc2 (v := 3160638497) hx hb hown (hts (.constantLong RX7 46 3160638497) (by decide +kernel)) dX7_sumsWithout_27 ?_
        refine lv_iload hx hb dX7_sumsWithout_30 (lv_at hl 4 rfl) ?_
        refine pu_calli (As := [.long 3160638497, .int (nI k)]) (rest := []) ⟨hx, hb, hml, hown, hts⟩ (c_X7_nibble l 3160638497 (nI k)) (va_cwS 2 hts gX7_sumsWithout_X7_nibble rfl rfl rfl (by decide +kernel) ⟨(Nat.le_of_ble_eq_true rfl), (Nat.le_of_ble_eq_true rfl)⟩) rfl hl.1 (lv_room (Nat.le_of_ble_eq_true rfl)) dX7_sumsWithout_32 ⟨Nat.zero_le _, Nat.zero_le _⟩ hS hA rfl (fun locs hS => ?_)
        refine lv_istore (lv' := [(5, .int (fNib 3160638497 (nI k))), (3, .int ((fLen d) + (-1))), (0, .int sums), (1, .int pls), (2, .int q), (4, .int (nI k))]) hx hb dX7_sumsWithout_35 hl (by decide) rfl (fun ls hl => ?_)
        refine lv_iconst (v := 0) hx hb dX7_sumsWithout_37 (by decide) ?_
        refine lv_istore (lv' := [(6, .int 0), (5, .int (fNib 3160638497 (nI k))), (3, .int ((fLen d) + (-1))), (0, .int sums), (1, .int pls), (2, .int q), (4, .int (nI k))]) hx hb dX7_sumsWithout_38 hl (by decide) rfl (fun ls hl => ?_)
        refine lv_iconst (v := 0) hx hb dX7_sumsWithout_40 (by decide) ?_
        refine lv_istore (lv' := [(7, .int 0), (6, .int 0), (5, .int (fNib 3160638497 (nI k))), (3, .int ((fLen d) + (-1))), (0, .int sums), (1, .int pls), (2, .int q), (4, .int (nI k))]) hx hb dX7_sumsWithout_41 hl (by decide) rfl (fun ls hl => ?_)
        exact l2 c_21 4 0 0 rfl rfl _ ls hS (lv_sub hl [4, 5, 6, 3, 7, 2, 1, 0] rfl)
  refine lv_iload_n hx hb dX7_sumsWithout_0 rfl (lv_at hl 0 rfl) ?_
  refine lv_istore_n (lv' := [(2, .int sums), (0, .int sums), (1, .int pls)]) hx hb dX7_sumsWithout_1 rfl hl (by decide) rfl (fun ls hl => ?_)
  refine lv_iconst (v := 4) hx hb dX7_sumsWithout_2 (by decide) ?_
  refine lv_istore_n (lv' := [(3, .int 4), (2, .int sums), (0, .int sums), (1, .int pls)]) hx hb dX7_sumsWithout_3 rfl hl (by decide) rfl (fun ls hl => ?_)
  refine lv_iconst (v := 0) hx hb dX7_sumsWithout_4 (by decide) ?_
  refine lv_istore (lv' := [(4, .int 0), (3, .int 4), (2, .int sums), (0, .int sums), (1, .int pls)]) hx hb dX7_sumsWithout_5 hl (by decide) rfl (fun ls hl => ?_)
  exact l1 8 0 sums 0 rfl (Nat.le_refl 0) rfl _ ls hS (lv_sub hl [3, 4, 2, 1, 0] rfl)
set_option maxHeartbeats 4000000 in
set_option maxRecDepth 100000 in
theorem c_X7_filled (l : Launch) (w : Int64) (sums : Int32) (pls : Int32) : pc_l l yX7_filled wsX7_filled ({ frames := 2, cells := 0, slots := 0, locals := 50 } : Room) [.long w, .int sums, .int pls] (fFill w sums pls) := by
  intro H0
  refine Met.ofW (cc := cX7_filled) (maxL := 10) (ret := (some .long)) (by decide) rfl ?_
  intro p e s m args below meth c s₁ B hml hv
  obtain ⟨rfl, rfl⟩ := hv
  have hx := B.exec
  have hb := B.bytes
  have hr := B.returns
  have hts := atoms_spec (ws := wsX7_filled) B.pre
  have hown : s.vm.findClass RX7 = some m.cls := findClass_of_methodNamed B.named
  have hlocks := B.notSynchronized
  have hS : va_S (fun q => s.heap.size ≤ q) s.heap s.heap [] := va_S.rf
  have hA : ∀ q : Nat, s.heap.size ≤ q → (fun q : Nat => s.heap.size ≤ q) q := fun _ h => h
  have hl := lv_entry ([.long w, .int sums, .int pls]) (n := 10) (Nat.le_of_ble_eq_true rfl)
  rw [lg_entry_eq]
  generalize (lg_sl ([.long w, .int sums, .int pls]) ++ List.replicate (10 - (lg_sl ([.long w, .int sums, .int pls])).length) Slot.unset).toArray = ls at hl ⊢
  have hl : lv_has ls 10 [(0, .long w), (2, .int sums), (3, .int pls)] := hl
  have l1 : ∀ (n k : Nat) (q : Int64), k + n = 8 → fFi sums pls n k q = fFill w sums pls → ∀ (locs : List Loc) (ls : Array Slot), va_S (fun q => s.heap.size ≤ q) s.heap s.heap locs → lv_has ls 10 [(0, .long w), (2, .int sums), (3, .int pls), (4, .long q), (6, .int (nI k))] → pW_l p l e wsX7_filled ({ frames := 2, cells := 0, slots := 0, locals := 50 } : Room) s m ([.long w, .int sums, .int pls] : List Value).toArray below meth c (fFill w sums pls) locs (F0 m 6 ls []) := by
    intro n
    induction n with
    | zero =>
      intro k q hk_l1  hres_l1 locs ls hS hl
      obtain rfl : k = 8 := by omega
      refine lv_iload hx hb dX7_filled_6 (lv_at hl 4 rfl) ?_
      refine lv_bipush (v := 8) hx hb dX7_filled_8 (by decide) ?_
      refine lv_icmp_ge (tgt := 85) hx hb dX7_filled_10 (by decide) (fun c_10 => ?_) (fun c_10 => absurd c_10 (by decide))
      refine lv_lload hx hb dX7_filled_85 (lv_at hl 3 rfl) ?_
      exact W.lret (v := q) hx hb hr (fun t ht hW => ⟨⟨q, (), rfl, hres_l1, ht⟩, hS.F ht⟩) hS.2.2 dX7_filled_87
    | succ n ih =>
      intro k q hk_l1  hres_l1 locs ls hS hl
      refine lv_iload hx hb dX7_filled_6 (lv_at hl 4 rfl) ?_
      refine lv_bipush (v := 8) hx hb dX7_filled_8 (by decide) ?_
      refine lv_icmp_ge (tgt := 85) hx hb dX7_filled_10 (by decide) (fun c_10 => absurd c_10 (nI_ge (a := k) (b := 8) (by omega) (by omega))) (fun c_10 => ?_)
      refine lv_iload_n hx hb dX7_filled_13 rfl (lv_at hl 2 rfl) ?_
      refine lv_iload hx hb dX7_filled_14 (lv_at hl 4 rfl) ?_
      refine lv_ishr hx hb dX7_filled_16 ?_
      refine lv_iconst (v := 1) hx hb dX7_filled_17 (by decide) ?_
      refine lv_iand hx hb dX7_filled_18 ?_
      refine lv_iconst (v := 1) hx hb dX7_filled_19 (by decide) ?_
      refine lv_icmp_ne (tgt := 79) hx hb dX7_filled_20 (by decide) (fun c_20 => ?_) (fun c_20 => ?_)
      · refine lv_iinc (v := nI (k + 1)) (lv' := [(6, .int (nI (k + 1))), (0, .long w), (2, .int sums), (3, .int pls), (4, .long q)]) hx hb dX7_filled_79 hl (k := 4) rfl (nI_1 _) (by decide) rfl (fun ls hl => ?_)
        refine lv_goto (tgt := 6) hx hb dX7_filled_82 (by decide) ?_
        exact ih (k + 1) _ (by omega) (by rw [fFi, if_neg c_20] at hres_l1; exact hres_l1) _ ls hS (lv_sub hl [1, 2, 3, 4, 0] rfl)
      · refine lv_iload_n hx hb dX7_filled_23 rfl (lv_at hl 2 rfl) ?_
        refine lv_iconst (v := 1) hx hb dX7_filled_24 (by decide) ?_
        refine lv_iload hx hb dX7_filled_25 (lv_at hl 4 rfl) ?_
        refine lv_ishl hx hb dX7_filled_27 ?_
        refine lv_iconst (v := (-1)) hx hb dX7_filled_28 (by decide) ?_
        refine lv_ixor hx hb dX7_filled_29 ?_
        refine lv_iand hx hb dX7_filled_30 ?_
        refine lv_istore (lv' := [(7, .int (pls &&& (((1 : Int32) <<< ((nI k) &&& 31)) ^^^ (-1)))), (0, .long w), (2, .int sums), (3, .int pls), (4, .long q), (6, .int (nI k))]) hx hb dX7_filled_31 hl (by decide) rfl (fun ls hl => ?_)
        refine lv_iload_n hx hb dX7_filled_33 rfl (lv_at hl 2 rfl) ?_
        refine lv_iload hx hb dX7_filled_34 (lv_at hl 0 rfl) ?_
        refine pu_calli (As := [.int sums, .int (pls &&& (((1 : Int32) <<< ((nI k) &&& 31)) ^^^ (-1)))]) (rest := []) ⟨hx, hb, hml, hown, hts⟩ (c_X7_sumsWithout l sums (pls &&& (((1 : Int32) <<< ((nI k) &&& 31)) ^^^ (-1)))) (va_cwS 2 hts gX7_filled_X7_sumsWithout rfl rfl rfl (by decide +kernel) ⟨(Nat.le_of_ble_eq_true rfl), (Nat.le_of_ble_eq_true rfl)⟩) rfl hl.1 (lv_room (Nat.le_of_ble_eq_true rfl)) dX7_filled_36 ⟨Nat.zero_le _, Nat.zero_le _⟩ hS hA rfl (fun locs hS => ?_)
        refine lv_bipush (v := 15) hx hb dX7_filled_39 (by decide) ?_
        refine lv_iand hx hb dX7_filled_41 ?_
        refine lv_istore (lv' := [(8, .int ((fSw sums (pls &&& (((1 : Int32) <<< ((nI k) &&& 31)) ^^^ (-1)))) &&& 15)), (7, .int (pls &&& (((1 : Int32) <<< ((nI k) &&& 31)) ^^^ (-1)))), (0, .long w), (2, .int sums), (3, .int pls), (4, .long q), (6, .int (nI k))]) hx hb dX7_filled_42 hl (by decide) rfl (fun ls hl => ?_)
        refine lv_lconst (v := 1) hx hb dX7_filled_44 (by decide) ?_
        refine lv_iconst (v := 4) hx hb dX7_filled_45 (by decide) ?_
        refine lv_iload hx hb dX7_filled_46 (lv_at hl 6 rfl) ?_
        refine lv_imul hx hb dX7_filled_48 ?_
        refine lv_lshl hx hb dX7_filled_49 rfl ?_
        refine pu_calli (As := [.long ((1 : Int64) <<< ((4 * (nI k)).toInt64 &&& 63))]) (rest := []) ⟨hx, hb, hml, hown, hts⟩ (c_X7_sumsOf l ((1 : Int64) <<< ((4 * (nI k)).toInt64 &&& 63))) (va_cwS 1 hts gX7_filled_X7_sumsOf rfl rfl rfl (by decide +kernel) ⟨(Nat.le_of_ble_eq_true rfl), (Nat.le_of_ble_eq_true rfl)⟩) rfl hl.1 (lv_room (Nat.le_of_ble_eq_true rfl)) dX7_filled_50 ⟨Nat.zero_le _, Nat.zero_le _⟩ hS hA rfl (fun locs hS => ?_)
        refine lv_iload hx hb dX7_filled_53 (lv_at hl 1 rfl) ?_
        refine pu_calli (As := [.int (fSums ((1 : Int64) <<< ((4 * (nI k)).toInt64 &&& 63))), .int (pls &&& (((1 : Int32) <<< ((nI k) &&& 31)) ^^^ (-1)))]) (rest := []) ⟨hx, hb, hml, hown, hts⟩ (c_X7_sumsWithout l (fSums ((1 : Int64) <<< ((4 * (nI k)).toInt64 &&& 63))) (pls &&& (((1 : Int32) <<< ((nI k) &&& 31)) ^^^ (-1)))) (va_cwS 2 hts gX7_filled_X7_sumsWithout rfl rfl rfl (by decide +kernel) ⟨(Nat.le_of_ble_eq_true rfl), (Nat.le_of_ble_eq_true rfl)⟩) rfl hl.1 (lv_room (Nat.le_of_ble_eq_true rfl)) dX7_filled_55 ⟨Nat.zero_le _, Nat.zero_le _⟩ hS hA rfl (fun locs hS => ?_)
        refine lv_bipush (v := 15) hx hb dX7_filled_58 (by decide) ?_
        refine lv_iand hx hb dX7_filled_60 ?_
        refine lv_istore (lv' := [(9, .int ((fSw (fSums ((1 : Int64) <<< ((4 * (nI k)).toInt64 &&& 63))) (pls &&& (((1 : Int32) <<< ((nI k) &&& 31)) ^^^ (-1)))) &&& 15)), (8, .int ((fSw sums (pls &&& (((1 : Int32) <<< ((nI k) &&& 31)) ^^^ (-1)))) &&& 15)), (7, .int (pls &&& (((1 : Int32) <<< ((nI k) &&& 31)) ^^^ (-1)))), (0, .long w), (2, .int sums), (3, .int pls), (4, .long q), (6, .int (nI k))]) hx hb dX7_filled_61 hl (by decide) rfl (fun ls hl => ?_)
        refine lv_lload hx hb dX7_filled_63 (lv_at hl 6 rfl) ?_
        refine lv_iload hx hb dX7_filled_65 (lv_at hl 7 rfl) ?_
        refine lv_iload hx hb dX7_filled_67 (lv_at hl 1 rfl) ?_
        refine lv_iload hx hb dX7_filled_69 (lv_at hl 0 rfl) ?_
        refine pu_calli (As := [.int ((fSw sums (pls &&& (((1 : Int32) <<< ((nI k) &&& 31)) ^^^ (-1)))) &&& 15), .int ((fSw (fSums ((1 : Int64) <<< ((4 * (nI k)).toInt64 &&& 63))) (pls &&& (((1 : Int32) <<< ((nI k) &&& 31)) ^^^ (-1)))) &&& 15)]) (rest := [.int (nI k), .long q]) ⟨hx, hb, hml, hown, hts⟩ (c_X7_quotient l ((fSw sums (pls &&& (((1 : Int32) <<< ((nI k) &&& 31)) ^^^ (-1)))) &&& 15) ((fSw (fSums ((1 : Int64) <<< ((4 * (nI k)).toInt64 &&& 63))) (pls &&& (((1 : Int32) <<< ((nI k) &&& 31)) ^^^ (-1)))) &&& 15)) (va_cwS 2 hts gX7_filled_X7_quotient rfl rfl rfl (by decide +kernel) ⟨(Nat.le_of_ble_eq_true rfl), (Nat.le_of_ble_eq_true rfl)⟩) rfl hl.1 (lv_room (Nat.le_of_ble_eq_true rfl)) dX7_filled_71 ⟨Nat.zero_le _, Nat.zero_le _⟩ hS hA rfl (fun locs hS => ?_)
        refine pu_calll (As := [.long q, .int (nI k), .int (fQuot ((fSw sums (pls &&& (((1 : Int32) <<< ((nI k) &&& 31)) ^^^ (-1)))) &&& 15) ((fSw (fSums ((1 : Int64) <<< ((4 * (nI k)).toInt64 &&& 63))) (pls &&& (((1 : Int32) <<< ((nI k) &&& 31)) ^^^ (-1)))) &&& 15))]) (rest := []) ⟨hx, hb, hml, hown, hts⟩ (c_X7_turned l q (nI k) (fQuot ((fSw sums (pls &&& (((1 : Int32) <<< ((nI k) &&& 31)) ^^^ (-1)))) &&& 15) ((fSw (fSums ((1 : Int64) <<< ((4 * (nI k)).toInt64 &&& 63))) (pls &&& (((1 : Int32) <<< ((nI k) &&& 31)) ^^^ (-1)))) &&& 15))) (va_cwS 3 hts gX7_filled_X7_turned rfl rfl rfl (by decide +kernel) ⟨(Nat.le_of_ble_eq_true rfl), (Nat.le_of_ble_eq_true rfl)⟩) rfl hl.1 (lv_room (Nat.le_of_ble_eq_true rfl)) dX7_filled_74 ⟨Nat.zero_le _, Nat.zero_le _⟩ hS hA rfl (fun locs hS => ?_)
        refine lv_lstore (lv' := [(4, .long (fTurn q (nI k) (fQuot ((fSw sums (pls &&& (((1 : Int32) <<< ((nI k) &&& 31)) ^^^ (-1)))) &&& 15) ((fSw (fSums ((1 : Int64) <<< ((4 * (nI k)).toInt64 &&& 63))) (pls &&& (((1 : Int32) <<< ((nI k) &&& 31)) ^^^ (-1)))) &&& 15)))), (9, .int ((fSw (fSums ((1 : Int64) <<< ((4 * (nI k)).toInt64 &&& 63))) (pls &&& (((1 : Int32) <<< ((nI k) &&& 31)) ^^^ (-1)))) &&& 15)), (8, .int ((fSw sums (pls &&& (((1 : Int32) <<< ((nI k) &&& 31)) ^^^ (-1)))) &&& 15)), (7, .int (pls &&& (((1 : Int32) <<< ((nI k) &&& 31)) ^^^ (-1)))), (0, .long w), (2, .int sums), (3, .int pls), (6, .int (nI k))]) hx hb dX7_filled_77 hl (by decide) rfl (fun ls hl => ?_)
        refine lv_iinc (v := nI (k + 1)) (lv' := [(6, .int (nI (k + 1))), (4, .long (fTurn q (nI k) (fQuot ((fSw sums (pls &&& (((1 : Int32) <<< ((nI k) &&& 31)) ^^^ (-1)))) &&& 15) ((fSw (fSums ((1 : Int64) <<< ((4 * (nI k)).toInt64 &&& 63))) (pls &&& (((1 : Int32) <<< ((nI k) &&& 31)) ^^^ (-1)))) &&& 15)))), (9, .int ((fSw (fSums ((1 : Int64) <<< ((4 * (nI k)).toInt64 &&& 63))) (pls &&& (((1 : Int32) <<< ((nI k) &&& 31)) ^^^ (-1)))) &&& 15)), (8, .int ((fSw sums (pls &&& (((1 : Int32) <<< ((nI k) &&& 31)) ^^^ (-1)))) &&& 15)), (7, .int (pls &&& (((1 : Int32) <<< ((nI k) &&& 31)) ^^^ (-1)))), (0, .long w), (2, .int sums), (3, .int pls)]) hx hb dX7_filled_79 hl (k := 7) rfl (nI_1 _) (by decide) rfl (fun ls hl => ?_)
        refine lv_goto (tgt := 6) hx hb dX7_filled_82 (by decide) ?_
        exact ih (k + 1) _ (by omega) (by rw [fFi, if_pos c_20] at hres_l1; exact hres_l1) _ ls hS (lv_sub hl [5, 6, 7, 1, 0] rfl)
  refine lv_lload_n hx hb dX7_filled_0 rfl (lv_at hl 0 rfl) ?_
  refine lv_lstore (lv' := [(4, .long w), (0, .long w), (2, .int sums), (3, .int pls)]) hx hb dX7_filled_1 hl (by decide) rfl (fun ls hl => ?_)
  refine lv_iconst (v := 0) hx hb dX7_filled_3 (by decide) ?_
  refine lv_istore (lv' := [(6, .int 0), (4, .long w), (0, .long w), (2, .int sums), (3, .int pls)]) hx hb dX7_filled_4 hl (by decide) rfl (fun ls hl => ?_)
  exact l1 8 0 w rfl rfl _ ls hS (lv_sub hl [2, 3, 4, 1, 0] rfl)
set_option maxHeartbeats 4000000 in
set_option maxRecDepth 100000 in
theorem c_X7_of (l : Launch) (v : Int32) : pc_l l yX7_of wsX7_of ({ frames := 3, cells := 0, slots := 0, locals := 79 } : Room) [.int v] (fOf v) := by
  intro H0
  refine Met.ofW (cc := cX7_of) (maxL := 1) (ret := (some .long)) (by decide) rfl ?_
  intro p e s m args below meth c s₁ B hml hv
  obtain ⟨rfl, rfl⟩ := hv
  have hx := B.exec
  have hb := B.bytes
  have hr := B.returns
  have hts := atoms_spec (ws := wsX7_of) B.pre
  have hown : s.vm.findClass RX7 = some m.cls := findClass_of_methodNamed B.named
  have hlocks := B.notSynchronized
  have hS : va_S (fun q => s.heap.size ≤ q) s.heap s.heap [] := va_S.rf
  have hA : ∀ q : Nat, s.heap.size ≤ q → (fun q : Nat => s.heap.size ≤ q) q := fun _ h => h
  have hl := lv_entry ([.int v]) (n := 1) (Nat.le_of_ble_eq_true rfl)
  rw [lg_entry_eq]
  generalize (lg_sl ([.int v]) ++ List.replicate (1 - (lg_sl ([.int v])).length) Slot.unset).toArray = ls at hl ⊢
  have hl : lv_has ls 1 [(0, .int v)] := hl
  refine lv_iload_n hx hb dX7_of_0 rfl (lv_at hl 0 rfl) ?_
  refine lv_i2l hx hb dX7_of_1 rfl ?_
  refine lv_iload_n hx hb dX7_of_2 rfl (lv_at hl 0 rfl) ?_
  refine lv_i2l hx hb dX7_of_3 rfl ?_
  refine pu_calli (As := [.long v.toInt64]) (rest := [.long v.toInt64]) ⟨hx, hb, hml, hown, hts⟩ (c_X7_sumsOf l v.toInt64) (va_cwS 1 hts gX7_of_X7_sumsOf rfl rfl rfl (by decide +kernel) ⟨(Nat.le_of_ble_eq_true rfl), (Nat.le_of_ble_eq_true rfl)⟩) rfl hl.1 (lv_room (Nat.le_of_ble_eq_true rfl)) dX7_of_4 ⟨Nat.zero_le _, Nat.zero_le _⟩ hS hA rfl (fun locs hS => ?_)
  refine lv_sipush (v := 240) hx hb dX7_of_7 (by decide) ?_
  refine pu_calll (As := [.long v.toInt64, .int (fSums v.toInt64), .int 240]) (rest := []) ⟨hx, hb, hml, hown, hts⟩ (c_X7_filled l v.toInt64 (fSums v.toInt64) 240) (va_cwS 3 hts gX7_of_X7_filled rfl rfl rfl (by decide +kernel) ⟨(Nat.le_of_ble_eq_true rfl), (Nat.le_of_ble_eq_true rfl)⟩) rfl hl.1 (lv_room (Nat.le_of_ble_eq_true rfl)) dX7_of_10 ⟨Nat.zero_le _, Nat.zero_le _⟩ hS hA rfl (fun locs hS => ?_)
  exact W.lret (v := (fFill v.toInt64 (fSums v.toInt64) 240)) hx hb hr (fun t ht hW => ⟨⟨(fFill v.toInt64 (fSums v.toInt64) 240), (), rfl, rfl, ht⟩, hS.F ht⟩) hS.2.2 dX7_of_13
set_option maxHeartbeats 4000000 in
set_option maxRecDepth 100000 in
theorem c_J6_bitCount_0f7a4 (l : Launch) (x : Int32) : pc_i l yJ6_bitCount_0f7a4 wsJ6_bitCount_0f7a4 ({ frames := 0, cells := 0, slots := 0, locals := 0 } : Room) [.int x] (fBit x) := by
  intro H0
  refine Met.ofW (cc := cJ6_bitCount_0f7a4) (maxL := 1) (ret := (some .int)) (by decide) rfl ?_
  intro p e s m args below meth c s₁ B hml hv
  obtain ⟨rfl, rfl⟩ := hv
  have hx := B.exec
  have hb := B.bytes
  have hr := B.returns
  have hts := atoms_spec (ws := wsJ6_bitCount_0f7a4) B.pre
  have hown : s.vm.findClass RJ6 = some m.cls := findClass_of_methodNamed B.named
  have hlocks := B.notSynchronized
  have hS : va_S (fun q => s.heap.size ≤ q) s.heap s.heap [] := va_S.rf
  have hA : ∀ q : Nat, s.heap.size ≤ q → (fun q : Nat => s.heap.size ≤ q) q := fun _ h => h
  have hl := lv_entry ([.int x]) (n := 1) (Nat.le_of_ble_eq_true rfl)
  rw [lg_entry_eq]
  generalize (lg_sl ([.int x]) ++ List.replicate (1 - (lg_sl ([.int x])).length) Slot.unset).toArray = ls at hl ⊢
  have hl : lv_has ls 1 [(0, .int x)] := hl
  refine lv_iload_n hx hb dJ6_bitCount_0f7a4_0 rfl (lv_at hl 0 rfl) ?_
  refine lv_iload_n hx hb dJ6_bitCount_0f7a4_1 rfl (lv_at hl 0 rfl) ?_
  refine lv_iconst (v := 1) hx hb dJ6_bitCount_0f7a4_2 (by decide) ?_
  refine lv_iushr hx hb dJ6_bitCount_0f7a4_3 rfl ?_
  refine lv_ldcw (v := 1431655765) hx hb hown (hts (.constant RJ6 265 1431655765) (by decide +kernel)) dJ6_bitCount_0f7a4_4 ?_
  refine lv_iand hx hb dJ6_bitCount_0f7a4_7 ?_
  refine lv_isub hx hb dJ6_bitCount_0f7a4_8 ?_
  refine lv_topi (fun f8 ef8 => ?_)
  refine lv_istore_n (lv' := [(0, .int f8)]) hx hb dJ6_bitCount_0f7a4_9 rfl hl (by decide) rfl (fun ls hl => ?_)
  refine lv_iload_n hx hb dJ6_bitCount_0f7a4_10 rfl (lv_at hl 0 rfl) ?_
  refine lv_ldcw (v := 858993459) hx hb hown (hts (.constant RJ6 266 858993459) (by decide +kernel)) dJ6_bitCount_0f7a4_11 ?_
  refine lv_iand hx hb dJ6_bitCount_0f7a4_14 ?_
  refine lv_iload_n hx hb dJ6_bitCount_0f7a4_15 rfl (lv_at hl 0 rfl) ?_
  refine lv_iconst (v := 2) hx hb dJ6_bitCount_0f7a4_16 (by decide) ?_
  refine lv_iushr hx hb dJ6_bitCount_0f7a4_17 rfl ?_
  refine lv_ldcw (v := 858993459) hx hb hown (hts (.constant RJ6 266 858993459) (by decide +kernel)) dJ6_bitCount_0f7a4_18 ?_
  refine lv_iand hx hb dJ6_bitCount_0f7a4_21 ?_
  refine lv_iadd hx hb dJ6_bitCount_0f7a4_22 ?_
  refine lv_topi (fun f22 ef22 => ?_)
  refine lv_istore_n (lv' := [(0, .int f22)]) hx hb dJ6_bitCount_0f7a4_23 rfl hl (by decide) rfl (fun ls hl => ?_)
  refine lv_iload_n hx hb dJ6_bitCount_0f7a4_24 rfl (lv_at hl 0 rfl) ?_
  refine lv_iload_n hx hb dJ6_bitCount_0f7a4_25 rfl (lv_at hl 0 rfl) ?_
  refine lv_iconst (v := 4) hx hb dJ6_bitCount_0f7a4_26 (by decide) ?_
  refine lv_iushr hx hb dJ6_bitCount_0f7a4_27 rfl ?_
  refine lv_iadd hx hb dJ6_bitCount_0f7a4_28 ?_
  refine lv_ldcw (v := 252645135) hx hb hown (hts (.constant RJ6 267 252645135) (by decide +kernel)) dJ6_bitCount_0f7a4_29 ?_
  refine lv_iand hx hb dJ6_bitCount_0f7a4_32 ?_
  refine lv_topi (fun f32 ef32 => ?_)
  refine lv_istore_n (lv' := [(0, .int f32)]) hx hb dJ6_bitCount_0f7a4_33 rfl hl (by decide) rfl (fun ls hl => ?_)
  refine lv_iload_n hx hb dJ6_bitCount_0f7a4_34 rfl (lv_at hl 0 rfl) ?_
  refine lv_iload_n hx hb dJ6_bitCount_0f7a4_35 rfl (lv_at hl 0 rfl) ?_
  refine lv_bipush (v := 8) hx hb dJ6_bitCount_0f7a4_36 (by decide) ?_
  refine lv_iushr hx hb dJ6_bitCount_0f7a4_38 rfl ?_
  refine lv_iadd hx hb dJ6_bitCount_0f7a4_39 ?_
  refine lv_topi (fun f39 ef39 => ?_)
  refine lv_istore_n (lv' := [(0, .int f39)]) hx hb dJ6_bitCount_0f7a4_40 rfl hl (by decide) rfl (fun ls hl => ?_)
  refine lv_iload_n hx hb dJ6_bitCount_0f7a4_41 rfl (lv_at hl 0 rfl) ?_
  refine lv_iload_n hx hb dJ6_bitCount_0f7a4_42 rfl (lv_at hl 0 rfl) ?_
  refine lv_bipush (v := 16) hx hb dJ6_bitCount_0f7a4_43 (by decide) ?_
  refine lv_iushr hx hb dJ6_bitCount_0f7a4_45 rfl ?_
  refine lv_iadd hx hb dJ6_bitCount_0f7a4_46 ?_
  refine lv_topi (fun f46 ef46 => ?_)
  refine lv_istore_n (lv' := [(0, .int f46)]) hx hb dJ6_bitCount_0f7a4_47 rfl hl (by decide) rfl (fun ls hl => ?_)
  refine lv_iload_n hx hb dJ6_bitCount_0f7a4_48 rfl (lv_at hl 0 rfl) ?_
  refine lv_bipush (v := 63) hx hb dJ6_bitCount_0f7a4_49 (by decide) ?_
  refine lv_iand hx hb dJ6_bitCount_0f7a4_51 ?_
  exact W.iret (v := (f46 &&& 63)) hx hb hr (fun t ht hW => ⟨⟨(f46 &&& 63), (), rfl, (by rw [ef46, ef39, ef32, ef22, ef8]; rfl), ht⟩, hS.F ht⟩) hS.2.2 dJ6_bitCount_0f7a4_52
set_option maxHeartbeats 4000000 in
set_option maxRecDepth 100000 in
theorem c_X7_repaired (l : Launch) (w : Int64) (wk : Int32) : pc_l l yX7_repaired wsX7_repaired ({ frames := 3, cells := 0, slots := 0, locals := 79 } : Room) [.long w, .int wk] (fRep w wk) := by
  intro H0
  refine Met.ofW (cc := cX7_repaired) (maxL := 7) (ret := (some .long)) (by decide) rfl ?_
  intro p e s m args below meth c s₁ B hml hv
  obtain ⟨rfl, rfl⟩ := hv
  have hx := B.exec
  have hb := B.bytes
  have hr := B.returns
  have hts := atoms_spec (ws := wsX7_repaired) B.pre
  have hown : s.vm.findClass RX7 = some m.cls := findClass_of_methodNamed B.named
  have hlocks := B.notSynchronized
  have hS : va_S (fun q => s.heap.size ≤ q) s.heap s.heap [] := va_S.rf
  have hA : ∀ q : Nat, s.heap.size ≤ q → (fun q : Nat => s.heap.size ≤ q) q := fun _ h => h
  have hl := lv_entry ([.long w, .int wk]) (n := 7) (Nat.le_of_ble_eq_true rfl)
  rw [lg_entry_eq]
  generalize (lg_sl ([.long w, .int wk]) ++ List.replicate (7 - (lg_sl ([.long w, .int wk])).length) Slot.unset).toArray = ls at hl ⊢
  have hl : lv_has ls 7 [(0, .long w), (2, .int wk)] := hl
  have l1 : ∀ (n k : Nat) , k + n = 256 → fRe w (fSums w) wk (fBit wk) n k = fRep w wk → ∀ (locs : List Loc) (ls : Array Slot), va_S (fun q => s.heap.size ≤ q) s.heap s.heap locs → lv_has ls 7 [(0, .long w), (2, .int wk), (3, .int (fSums w)), (4, .int (fBit wk)), (5, .int (nI k))] → pW_l p l e wsX7_repaired ({ frames := 3, cells := 0, slots := 0, locals := 79 } : Room) s m ([.long w, .int wk] : List Value).toArray below meth c (fRep w wk) locs (F0 m 14 ls []) := by
    intro n
    induction n with
    | zero =>
      intro k  hk_l1  hres_l1 locs ls hS hl
      obtain rfl : k = 256 := by omega
      refine lv_iload hx hb dX7_repaired_14 (lv_at hl 4 rfl) ?_
      refine lv_sipush (v := 256) hx hb dX7_repaired_16 (by decide) ?_
      refine lv_icmp_ge (tgt := 82) hx hb dX7_repaired_19 (by decide) (fun c_19 => ?_) (fun c_19 => absurd c_19 (by decide))
      refine lv_ldc2 (v := (-1)) hx hb hown (hts (.constantLong RX7 35 (-1)) (by decide +kernel)) dX7_repaired_82 ?_
      exact W.lret (v := (-1)) hx hb hr (fun t ht hW => ⟨⟨(-1), (), rfl, hres_l1, ht⟩, hS.F ht⟩) hS.2.2 dX7_repaired_85
    | succ n ih =>
      intro k  hk_l1  hres_l1 locs ls hS hl
      refine lv_iload hx hb dX7_repaired_14 (lv_at hl 4 rfl) ?_
      refine lv_sipush (v := 256) hx hb dX7_repaired_16 (by decide) ?_
      refine lv_icmp_ge (tgt := 82) hx hb dX7_repaired_19 (by decide) (fun c_19 => absurd c_19 (nI_ge (a := k) (b := 256) (by omega) (by omega))) (fun c_19 => ?_)
      refine lv_iconst (v := 2) hx hb dX7_repaired_22 (by decide) ?_
      refine lv_iload hx hb dX7_repaired_23 (lv_at hl 4 rfl) ?_
      refine pu_calli (As := [.int (nI k)]) (rest := [.int 2]) ⟨hx, hb, hml, hown, hts⟩ (c_J6_bitCount_0f7a4 l (nI k)) (va_cwS 1 hts gX7_repaired_J6_bitCount_0f7a4 rfl rfl rfl (by decide +kernel) ⟨(Nat.le_of_ble_eq_true rfl), (Nat.le_of_ble_eq_true rfl)⟩) rfl hl.1 (lv_room (Nat.le_of_ble_eq_true rfl)) dX7_repaired_25 ⟨Nat.zero_le _, Nat.zero_le _⟩ hS hA rfl (fun locs hS => ?_)
      refine lv_imul hx hb dX7_repaired_28 ?_
      refine lv_iload hx hb dX7_repaired_29 (lv_at hl 3 rfl) ?_
      refine lv_iadd hx hb dX7_repaired_31 ?_
      refine lv_iconst (v := 4) hx hb dX7_repaired_32 (by decide) ?_
      refine lv_icmp_gt (tgt := 40) hx hb dX7_repaired_33 (by decide) (fun c_33 => ?_) (fun c_33 => ?_)
      · refine lv_iconst (v := 0) hx hb dX7_repaired_40 (by decide) ?_
        refine lv_istore (lv' := [(6, .int 0), (0, .long w), (2, .int wk), (3, .int (fSums w)), (4, .int (fBit wk)), (5, .int (nI k))]) hx hb dX7_repaired_41 hl (by decide) rfl (fun ls hl => ?_)
        refine lv_iload hx hb dX7_repaired_43 (lv_at hl 0 rfl) ?_
        refine lv_if_eq (tgt := 76) hx hb dX7_repaired_45 (by decide) (fun c_45 => ?_) (fun c_45 => absurd c_45 (by decide))
        refine lv_iinc (v := nI (k + 1)) (lv' := [(5, .int (nI (k + 1))), (6, .int 0), (0, .long w), (2, .int wk), (3, .int (fSums w)), (4, .int (fBit wk))]) hx hb dX7_repaired_76 hl (k := 5) rfl (nI_1 _) (by decide) rfl (fun ls hl => ?_)
        refine lv_goto (tgt := 14) hx hb dX7_repaired_79 (by decide) ?_
        exact ih (k + 1) (by omega) (by rw [fRe, if_neg (fun h => absurd h.1 (Int32.not_le.mpr c_33))] at hres_l1; exact hres_l1) _ ls hS (lv_sub hl [2, 3, 4, 5, 0] rfl)
      · refine lv_iconst (v := 1) hx hb dX7_repaired_36 (by decide) ?_
        refine lv_goto (tgt := 41) hx hb dX7_repaired_37 (by decide) ?_
        refine lv_istore (lv' := [(6, .int 1), (0, .long w), (2, .int wk), (3, .int (fSums w)), (4, .int (fBit wk)), (5, .int (nI k))]) hx hb dX7_repaired_41 hl (by decide) rfl (fun ls hl => ?_)
        refine lv_iload hx hb dX7_repaired_43 (lv_at hl 0 rfl) ?_
        refine lv_if_eq (tgt := 76) hx hb dX7_repaired_45 (by decide) (fun c_45 => absurd c_45 (by decide)) (fun c_45 => ?_)
        refine lv_iload hx hb dX7_repaired_48 (lv_at hl 5 rfl) ?_
        refine lv_iload_n hx hb dX7_repaired_50 rfl (lv_at hl 2 rfl) ?_
        refine lv_iand hx hb dX7_repaired_51 ?_
        refine lv_if_ne (tgt := 76) hx hb dX7_repaired_52 (by decide) (fun c_52 => ?_) (fun c_52 => ?_)
        · refine lv_iinc (v := nI (k + 1)) (lv' := [(5, .int (nI (k + 1))), (6, .int 1), (0, .long w), (2, .int wk), (3, .int (fSums w)), (4, .int (fBit wk))]) hx hb dX7_repaired_76 hl (k := 5) rfl (nI_1 _) (by decide) rfl (fun ls hl => ?_)
          refine lv_goto (tgt := 14) hx hb dX7_repaired_79 (by decide) ?_
          exact ih (k + 1) (by omega) (by rw [fRe, if_neg (fun h => c_52 h.2.1)] at hres_l1; exact hres_l1) _ ls hS (lv_sub hl [2, 3, 4, 5, 0] rfl)
        · refine lv_iload_n hx hb dX7_repaired_55 rfl (lv_at hl 3 rfl) ?_
          refine lv_iload hx hb dX7_repaired_56 (lv_at hl 5 rfl) ?_
          refine lv_iload_n hx hb dX7_repaired_58 rfl (lv_at hl 2 rfl) ?_
          refine lv_ior hx hb dX7_repaired_59 ?_
          refine pu_calli (As := [.int (fSums w), .int ((nI k) ||| wk)]) (rest := []) ⟨hx, hb, hml, hown, hts⟩ (c_X7_sumsWithout l (fSums w) ((nI k) ||| wk)) (va_cwS 2 hts gX7_repaired_X7_sumsWithout rfl rfl rfl (by decide +kernel) ⟨(Nat.le_of_ble_eq_true rfl), (Nat.le_of_ble_eq_true rfl)⟩) rfl hl.1 (lv_room (Nat.le_of_ble_eq_true rfl)) dX7_repaired_60 ⟨Nat.zero_le _, Nat.zero_le _⟩ hS hA rfl (fun locs hS => ?_)
          refine lv_if_ne (tgt := 76) hx hb dX7_repaired_63 (by decide) (fun c_63 => ?_) (fun c_63 => ?_)
          · refine lv_iinc (v := nI (k + 1)) (lv' := [(5, .int (nI (k + 1))), (6, .int 1), (0, .long w), (2, .int wk), (3, .int (fSums w)), (4, .int (fBit wk))]) hx hb dX7_repaired_76 hl (k := 5) rfl (nI_1 _) (by decide) rfl (fun ls hl => ?_)
            refine lv_goto (tgt := 14) hx hb dX7_repaired_79 (by decide) ?_
            exact ih (k + 1) (by omega) (by rw [fRe, if_neg (fun h => c_63 h.2.2)] at hres_l1; exact hres_l1) _ ls hS (lv_sub hl [2, 3, 4, 5, 0] rfl)
          · refine lv_lload_n hx hb dX7_repaired_66 rfl (lv_at hl 1 rfl) ?_
            refine lv_iload_n hx hb dX7_repaired_67 rfl (lv_at hl 3 rfl) ?_
            refine lv_iload hx hb dX7_repaired_68 (lv_at hl 5 rfl) ?_
            refine lv_iload_n hx hb dX7_repaired_70 rfl (lv_at hl 2 rfl) ?_
            refine lv_ior hx hb dX7_repaired_71 ?_
            refine pu_calll (As := [.long w, .int (fSums w), .int ((nI k) ||| wk)]) (rest := []) ⟨hx, hb, hml, hown, hts⟩ (c_X7_filled l w (fSums w) ((nI k) ||| wk)) (va_cwS 3 hts gX7_repaired_X7_filled rfl rfl rfl (by decide +kernel) ⟨(Nat.le_of_ble_eq_true rfl), (Nat.le_of_ble_eq_true rfl)⟩) rfl hl.1 (lv_room (Nat.le_of_ble_eq_true rfl)) dX7_repaired_72 ⟨Nat.zero_le _, Nat.zero_le _⟩ hS hA rfl (fun locs hS => ?_)
            exact W.lret (v := (fFill w (fSums w) ((nI k) ||| wk))) hx hb hr (fun t ht hW => ⟨⟨(fFill w (fSums w) ((nI k) ||| wk)), (), rfl, (by rw [fRe, if_pos ⟨Int32.not_lt.mp c_33, c_52, c_63⟩] at hres_l1; exact hres_l1), ht⟩, hS.F ht⟩) hS.2.2 dX7_repaired_75
  refine lv_lload_n hx hb dX7_repaired_0 rfl (lv_at hl 0 rfl) ?_
  refine pu_calli (As := [.long w]) (rest := []) ⟨hx, hb, hml, hown, hts⟩ (c_X7_sumsOf l w) (va_cwS 1 hts gX7_repaired_X7_sumsOf rfl rfl rfl (by decide +kernel) ⟨(Nat.le_of_ble_eq_true rfl), (Nat.le_of_ble_eq_true rfl)⟩) rfl hl.1 (lv_room (Nat.le_of_ble_eq_true rfl)) dX7_repaired_1 ⟨Nat.zero_le _, Nat.zero_le _⟩ hS hA rfl (fun locs hS => ?_)
  refine lv_istore_n (lv' := [(3, .int (fSums w)), (0, .long w), (2, .int wk)]) hx hb dX7_repaired_4 rfl hl (by decide) rfl (fun ls hl => ?_)
  refine lv_iload_n hx hb dX7_repaired_5 rfl (lv_at hl 2 rfl) ?_
  refine pu_calli (As := [.int wk]) (rest := []) ⟨hx, hb, hml, hown, hts⟩ (c_J6_bitCount_0f7a4 l wk) (va_cwS 1 hts gX7_repaired_J6_bitCount_0f7a4 rfl rfl rfl (by decide +kernel) ⟨(Nat.le_of_ble_eq_true rfl), (Nat.le_of_ble_eq_true rfl)⟩) rfl hl.1 (lv_room (Nat.le_of_ble_eq_true rfl)) dX7_repaired_6 ⟨Nat.zero_le _, Nat.zero_le _⟩ hS hA rfl (fun locs hS => ?_)
  refine lv_istore (lv' := [(4, .int (fBit wk)), (3, .int (fSums w)), (0, .long w), (2, .int wk)]) hx hb dX7_repaired_9 hl (by decide) rfl (fun ls hl => ?_)
  refine lv_iconst (v := 0) hx hb dX7_repaired_11 (by decide) ?_
  refine lv_istore (lv' := [(5, .int 0), (4, .int (fBit wk)), (3, .int (fSums w)), (0, .long w), (2, .int wk)]) hx hb dX7_repaired_12 hl (by decide) rfl (fun ls hl => ?_)
  exact l1 256 0 rfl rfl _ ls hS (lv_sub hl [3, 4, 2, 1, 0] rfl)
