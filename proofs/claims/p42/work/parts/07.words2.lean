set_option maxHeartbeats 4000000 in
set_option maxRecDepth 100000 in
theorem c_X1_ofByte (l : Launch) (d : Int32) (b0 : Int32) : pc_i l yX1_ofByte wsX1_ofByte ({ frames := 0, cells := 0, slots := 0, locals := 0 } : Room) [.int d, .int b0] (fByte d b0) := by
  intro H0
  refine Met.ofW (cc := cX1_ofByte) (maxL := 7) (ret := (some .int)) (by decide) rfl ?_
  intro p e s m args below meth c s₁ B hml hv
  obtain ⟨rfl, rfl⟩ := hv
  have hx := B.exec
  have hb := B.bytes
  have hr := B.returns
  have hts := atoms_spec (ws := wsX1_ofByte) B.pre
  have hown : s.vm.findClass RX1 = some m.cls := findClass_of_methodNamed B.named
  have hlocks := B.notSynchronized
  have hS : va_S (fun q => s.heap.size ≤ q) s.heap s.heap [] := va_S.rf
  have hA : ∀ q : Nat, s.heap.size ≤ q → (fun q : Nat => s.heap.size ≤ q) q := fun _ h => h
  have hl := lv_entry ([.int d, .int b0]) (n := 7) (Nat.le_of_ble_eq_true rfl)
  rw [lg_entry_eq]
  generalize (lg_sl ([.int d, .int b0]) ++ List.replicate (7 - (lg_sl ([.int d, .int b0])).length) Slot.unset).toArray = ls at hl ⊢
  have hl : lv_has ls 7 [(0, .int d), (1, .int b0)] := hl
  have l1 : ∀ (n : Nat) (q : Int32) (la : Int32), n ≤ 8 → fOb d n q la = fByte d b0 → ∀ (locs : List Loc) (ls : Array Slot), va_S (fun q => s.heap.size ≤ q) s.heap s.heap locs → lv_has ls 7 [(0, .int d), (1, .int b0), (2, .int q), (3, .int la), (4, .int (nI n + (-1)))] → pW_i p l e wsX1_ofByte ({ frames := 0, cells := 0, slots := 0, locals := 0 } : Room) s m ([.int d, .int b0] : List Value).toArray below meth c (fByte d b0) locs (F0 m 8 ls []) := by
    intro n
    induction n with
    | zero =>
      intro q la hk_l1 hres_l1 locs ls hS hl
      refine lv_iload hx hb dX1_ofByte_8 (lv_at hl 4 rfl) ?_
      refine lv_if_lt (tgt := 58) hx hb dX1_ofByte_10 (by decide) (fun c_10 => ?_) (fun c_10 => absurd c_10 (by decide))
      refine lv_iload_n hx hb dX1_ofByte_58 rfl (lv_at hl 2 rfl) ?_
      exact W.iret (v := q) hx hb hr (fun t ht hW => ⟨⟨q, (), rfl, hres_l1, ht⟩, hS.F ht⟩) hS.2.2 dX1_ofByte_59
    | succ n ih =>
      intro q la hk_l1 hres_l1 locs ls hS hl
      rw [pk_m1 n] at hl
      refine lv_iload hx hb dX1_ofByte_8 (lv_at hl 4 rfl) ?_
      refine lv_if_lt (tgt := 58) hx hb dX1_ofByte_10 (by decide) (fun c_10 => absurd c_10 (nI_pos (n := n) (by omega))) (fun c_10 => ?_)
      refine lv_iload_n hx hb dX1_ofByte_13 rfl (lv_at hl 0 rfl) ?_
      refine lv_iload hx hb dX1_ofByte_14 (lv_at hl 4 rfl) ?_
      refine lv_ishr hx hb dX1_ofByte_16 ?_
      refine lv_iconst (v := 1) hx hb dX1_ofByte_17 (by decide) ?_
      refine lv_iand hx hb dX1_ofByte_18 ?_
      refine lv_istore (lv' := [(5, .int ((d >>> ((nI n) &&& 31)) &&& 1)), (0, .int d), (1, .int b0), (2, .int q), (3, .int la), (4, .int (nI n))]) hx hb dX1_ofByte_19 hl (by decide) rfl (fun ls hl => ?_)
      refine lv_iload_n hx hb dX1_ofByte_21 rfl (lv_at hl 4 rfl) ?_
      refine lv_if_ne (tgt := 34) hx hb dX1_ofByte_22 (by decide) (fun c_22 => ?_) (fun c_22 => ?_)
      · refine lv_iconst (v := 0) hx hb dX1_ofByte_34 (by decide) ?_
        refine lv_istore (lv' := [(6, .int 0), (5, .int ((d >>> ((nI n) &&& 31)) &&& 1)), (0, .int d), (1, .int b0), (2, .int q), (3, .int la), (4, .int (nI n))]) hx hb dX1_ofByte_35 hl (by decide) rfl (fun ls hl => ?_)
        refine lv_iload_n hx hb dX1_ofByte_37 rfl (lv_at hl 4 rfl) ?_
        refine lv_iconst (v := 2) hx hb dX1_ofByte_38 (by decide) ?_
        refine lv_ishl hx hb dX1_ofByte_39 ?_
        refine lv_iload hx hb dX1_ofByte_40 (lv_at hl 0 rfl) ?_
        refine lv_iconst (v := 1) hx hb dX1_ofByte_42 (by decide) ?_
        refine lv_ishl hx hb dX1_ofByte_43 ?_
        refine lv_ior hx hb dX1_ofByte_44 ?_
        refine lv_iload hx hb dX1_ofByte_45 (lv_at hl 1 rfl) ?_
        refine lv_ior hx hb dX1_ofByte_47 ?_
        refine lv_istore_n (lv' := [(2, .int (((q <<< (2 &&& 31)) ||| ((0 : Int32) <<< (1 &&& 31))) ||| ((d >>> ((nI n) &&& 31)) &&& 1))), (6, .int 0), (5, .int ((d >>> ((nI n) &&& 31)) &&& 1)), (0, .int d), (1, .int b0), (3, .int la), (4, .int (nI n))]) hx hb dX1_ofByte_48 rfl hl (by decide) rfl (fun ls hl => ?_)
        refine lv_iload hx hb dX1_ofByte_49 (lv_at hl 2 rfl) ?_
        refine lv_istore_n (lv' := [(3, .int ((d >>> ((nI n) &&& 31)) &&& 1)), (2, .int (((q <<< (2 &&& 31)) ||| ((0 : Int32) <<< (1 &&& 31))) ||| ((d >>> ((nI n) &&& 31)) &&& 1))), (6, .int 0), (5, .int ((d >>> ((nI n) &&& 31)) &&& 1)), (0, .int d), (1, .int b0), (4, .int (nI n))]) hx hb dX1_ofByte_51 rfl hl (by decide) rfl (fun ls hl => ?_)
        refine lv_iinc (v := (nI n) + (-1)) (lv' := [(4, .int ((nI n) + (-1))), (3, .int ((d >>> ((nI n) &&& 31)) &&& 1)), (2, .int (((q <<< (2 &&& 31)) ||| ((0 : Int32) <<< (1 &&& 31))) ||| ((d >>> ((nI n) &&& 31)) &&& 1))), (6, .int 0), (5, .int ((d >>> ((nI n) &&& 31)) &&& 1)), (0, .int d), (1, .int b0)]) hx hb dX1_ofByte_52 hl (k := 6) rfl rfl (by decide) rfl (fun ls hl => ?_)
        refine lv_goto (tgt := 8) hx hb dX1_ofByte_55 (by decide) ?_
        exact ih _ _ (by omega) (by rw [fOb, if_neg (fun h => c_22 h.1)] at hres_l1; exact hres_l1) _ ls hS (lv_sub hl [5, 6, 2, 1, 0] rfl)
      · refine lv_iload hx hb dX1_ofByte_25 (lv_at hl 0 rfl) ?_
        refine lv_if_ne (tgt := 34) hx hb dX1_ofByte_27 (by decide) (fun c_27 => ?_) (fun c_27 => ?_)
        · refine lv_iconst (v := 0) hx hb dX1_ofByte_34 (by decide) ?_
          refine lv_istore (lv' := [(6, .int 0), (5, .int ((d >>> ((nI n) &&& 31)) &&& 1)), (0, .int d), (1, .int b0), (2, .int q), (3, .int la), (4, .int (nI n))]) hx hb dX1_ofByte_35 hl (by decide) rfl (fun ls hl => ?_)
          refine lv_iload_n hx hb dX1_ofByte_37 rfl (lv_at hl 4 rfl) ?_
          refine lv_iconst (v := 2) hx hb dX1_ofByte_38 (by decide) ?_
          refine lv_ishl hx hb dX1_ofByte_39 ?_
          refine lv_iload hx hb dX1_ofByte_40 (lv_at hl 0 rfl) ?_
          refine lv_iconst (v := 1) hx hb dX1_ofByte_42 (by decide) ?_
          refine lv_ishl hx hb dX1_ofByte_43 ?_
          refine lv_ior hx hb dX1_ofByte_44 ?_
          refine lv_iload hx hb dX1_ofByte_45 (lv_at hl 1 rfl) ?_
          refine lv_ior hx hb dX1_ofByte_47 ?_
          refine lv_istore_n (lv' := [(2, .int (((q <<< (2 &&& 31)) ||| ((0 : Int32) <<< (1 &&& 31))) ||| ((d >>> ((nI n) &&& 31)) &&& 1))), (6, .int 0), (5, .int ((d >>> ((nI n) &&& 31)) &&& 1)), (0, .int d), (1, .int b0), (3, .int la), (4, .int (nI n))]) hx hb dX1_ofByte_48 rfl hl (by decide) rfl (fun ls hl => ?_)
          refine lv_iload hx hb dX1_ofByte_49 (lv_at hl 2 rfl) ?_
          refine lv_istore_n (lv' := [(3, .int ((d >>> ((nI n) &&& 31)) &&& 1)), (2, .int (((q <<< (2 &&& 31)) ||| ((0 : Int32) <<< (1 &&& 31))) ||| ((d >>> ((nI n) &&& 31)) &&& 1))), (6, .int 0), (5, .int ((d >>> ((nI n) &&& 31)) &&& 1)), (0, .int d), (1, .int b0), (4, .int (nI n))]) hx hb dX1_ofByte_51 rfl hl (by decide) rfl (fun ls hl => ?_)
          refine lv_iinc (v := (nI n) + (-1)) (lv' := [(4, .int ((nI n) + (-1))), (3, .int ((d >>> ((nI n) &&& 31)) &&& 1)), (2, .int (((q <<< (2 &&& 31)) ||| ((0 : Int32) <<< (1 &&& 31))) ||| ((d >>> ((nI n) &&& 31)) &&& 1))), (6, .int 0), (5, .int ((d >>> ((nI n) &&& 31)) &&& 1)), (0, .int d), (1, .int b0)]) hx hb dX1_ofByte_52 hl (k := 6) rfl rfl (by decide) rfl (fun ls hl => ?_)
          refine lv_goto (tgt := 8) hx hb dX1_ofByte_55 (by decide) ?_
          exact ih _ _ (by omega) (by rw [fOb, if_neg (fun h => c_27 h.2)] at hres_l1; exact hres_l1) _ ls hS (lv_sub hl [5, 6, 2, 1, 0] rfl)
        · refine lv_iconst (v := 1) hx hb dX1_ofByte_30 (by decide) ?_
          refine lv_goto (tgt := 35) hx hb dX1_ofByte_31 (by decide) ?_
          refine lv_istore (lv' := [(6, .int 1), (5, .int ((d >>> ((nI n) &&& 31)) &&& 1)), (0, .int d), (1, .int b0), (2, .int q), (3, .int la), (4, .int (nI n))]) hx hb dX1_ofByte_35 hl (by decide) rfl (fun ls hl => ?_)
          refine lv_iload_n hx hb dX1_ofByte_37 rfl (lv_at hl 4 rfl) ?_
          refine lv_iconst (v := 2) hx hb dX1_ofByte_38 (by decide) ?_
          refine lv_ishl hx hb dX1_ofByte_39 ?_
          refine lv_iload hx hb dX1_ofByte_40 (lv_at hl 0 rfl) ?_
          refine lv_iconst (v := 1) hx hb dX1_ofByte_42 (by decide) ?_
          refine lv_ishl hx hb dX1_ofByte_43 ?_
          refine lv_ior hx hb dX1_ofByte_44 ?_
          refine lv_iload hx hb dX1_ofByte_45 (lv_at hl 1 rfl) ?_
          refine lv_ior hx hb dX1_ofByte_47 ?_
          refine lv_istore_n (lv' := [(2, .int (((q <<< (2 &&& 31)) ||| ((1 : Int32) <<< (1 &&& 31))) ||| ((d >>> ((nI n) &&& 31)) &&& 1))), (6, .int 1), (5, .int ((d >>> ((nI n) &&& 31)) &&& 1)), (0, .int d), (1, .int b0), (3, .int la), (4, .int (nI n))]) hx hb dX1_ofByte_48 rfl hl (by decide) rfl (fun ls hl => ?_)
          refine lv_iload hx hb dX1_ofByte_49 (lv_at hl 2 rfl) ?_
          refine lv_istore_n (lv' := [(3, .int ((d >>> ((nI n) &&& 31)) &&& 1)), (2, .int (((q <<< (2 &&& 31)) ||| ((1 : Int32) <<< (1 &&& 31))) ||| ((d >>> ((nI n) &&& 31)) &&& 1))), (6, .int 1), (5, .int ((d >>> ((nI n) &&& 31)) &&& 1)), (0, .int d), (1, .int b0), (4, .int (nI n))]) hx hb dX1_ofByte_51 rfl hl (by decide) rfl (fun ls hl => ?_)
          refine lv_iinc (v := (nI n) + (-1)) (lv' := [(4, .int ((nI n) + (-1))), (3, .int ((d >>> ((nI n) &&& 31)) &&& 1)), (2, .int (((q <<< (2 &&& 31)) ||| ((1 : Int32) <<< (1 &&& 31))) ||| ((d >>> ((nI n) &&& 31)) &&& 1))), (6, .int 1), (5, .int ((d >>> ((nI n) &&& 31)) &&& 1)), (0, .int d), (1, .int b0)]) hx hb dX1_ofByte_52 hl (k := 6) rfl rfl (by decide) rfl (fun ls hl => ?_)
          refine lv_goto (tgt := 8) hx hb dX1_ofByte_55 (by decide) ?_
          exact ih _ _ (by omega) (by rw [fOb, if_pos ⟨c_22, c_27⟩] at hres_l1; exact hres_l1) _ ls hS (lv_sub hl [5, 6, 2, 1, 0] rfl)
  refine lv_iconst (v := 0) hx hb dX1_ofByte_0 (by decide) ?_
  refine lv_istore_n (lv' := [(2, .int 0), (0, .int d), (1, .int b0)]) hx hb dX1_ofByte_1 rfl hl (by decide) rfl (fun ls hl => ?_)
  refine lv_iload_n hx hb dX1_ofByte_2 rfl (lv_at hl 2 rfl) ?_
  refine lv_istore_n (lv' := [(3, .int b0), (2, .int 0), (0, .int d), (1, .int b0)]) hx hb dX1_ofByte_3 rfl hl (by decide) rfl (fun ls hl => ?_)
  refine lv_bipush (v := 7) hx hb dX1_ofByte_4 (by decide) ?_
  refine lv_istore (lv' := [(4, .int 7), (3, .int b0), (2, .int 0), (0, .int d), (1, .int b0)]) hx hb dX1_ofByte_6 hl (by decide) rfl (fun ls hl => ?_)
  exact l1 8 0 b0 (Nat.le_refl 8) rfl _ ls hS (lv_sub hl [3, 4, 2, 1, 0] rfl)
set_option maxHeartbeats 4000000 in
set_option maxRecDepth 100000 in
theorem c_X1_dataOf (l : Launch) (cl : Int32) : pc_i l yX1_dataOf wsX1_dataOf ({ frames := 0, cells := 0, slots := 0, locals := 0 } : Room) [.int cl] (fData cl) := by
  intro H0
  refine Met.ofW (cc := cX1_dataOf) (maxL := 3) (ret := (some .int)) (by decide) rfl ?_
  intro p e s m args below meth c s₁ B hml hv
  obtain ⟨rfl, rfl⟩ := hv
  have hx := B.exec
  have hb := B.bytes
  have hr := B.returns
  have hts := atoms_spec (ws := wsX1_dataOf) B.pre
  have hown : s.vm.findClass RX1 = some m.cls := findClass_of_methodNamed B.named
  have hlocks := B.notSynchronized
  have hS : va_S (fun q => s.heap.size ≤ q) s.heap s.heap [] := va_S.rf
  have hA : ∀ q : Nat, s.heap.size ≤ q → (fun q : Nat => s.heap.size ≤ q) q := fun _ h => h
  have hl := lv_entry ([.int cl]) (n := 3) (Nat.le_of_ble_eq_true rfl)
  rw [lg_entry_eq]
  generalize (lg_sl ([.int cl]) ++ List.replicate (3 - (lg_sl ([.int cl])).length) Slot.unset).toArray = ls at hl ⊢
  have hl : lv_has ls 3 [(0, .int cl)] := hl
  have l1 : ∀ (n : Nat) (q : Int32), n ≤ 8 → fDa cl n q = fData cl → ∀ (locs : List Loc) (ls : Array Slot), va_S (fun q => s.heap.size ≤ q) s.heap s.heap locs → lv_has ls 3 [(0, .int cl), (1, .int q), (2, .int (nI n + (-1)))] → pW_i p l e wsX1_dataOf ({ frames := 0, cells := 0, slots := 0, locals := 0 } : Room) s m ([.int cl] : List Value).toArray below meth c (fData cl) locs (F0 m 5 ls []) := by
    intro n
    induction n with
    | zero =>
      intro q hk_l1 hres_l1 locs ls hS hl
      refine lv_iload_n hx hb dX1_dataOf_5 rfl (lv_at hl 2 rfl) ?_
      refine lv_if_lt (tgt := 27) hx hb dX1_dataOf_6 (by decide) (fun c_6 => ?_) (fun c_6 => absurd c_6 (by decide))
      refine lv_iload_n hx hb dX1_dataOf_27 rfl (lv_at hl 1 rfl) ?_
      exact W.iret (v := q) hx hb hr (fun t ht hW => ⟨⟨q, (), rfl, hres_l1, ht⟩, hS.F ht⟩) hS.2.2 dX1_dataOf_28
    | succ n ih =>
      intro q hk_l1 hres_l1 locs ls hS hl
      rw [pk_m1 n] at hl
      refine lv_iload_n hx hb dX1_dataOf_5 rfl (lv_at hl 2 rfl) ?_
      refine lv_if_lt (tgt := 27) hx hb dX1_dataOf_6 (by decide) (fun c_6 => absurd c_6 (nI_pos (n := n) (by omega))) (fun c_6 => ?_)
      refine lv_iload_n hx hb dX1_dataOf_9 rfl (lv_at hl 1 rfl) ?_
      refine lv_iconst (v := 1) hx hb dX1_dataOf_10 (by decide) ?_
      refine lv_ishl hx hb dX1_dataOf_11 ?_
      refine lv_iload_n hx hb dX1_dataOf_12 rfl (lv_at hl 0 rfl) ?_
      refine lv_iconst (v := 2) hx hb dX1_dataOf_13 (by decide) ?_
      refine lv_iload_n hx hb dX1_dataOf_14 rfl (lv_at hl 2 rfl) ?_
      refine lv_imul hx hb dX1_dataOf_15 ?_
      refine lv_ishr hx hb dX1_dataOf_16 ?_
      refine lv_iconst (v := 1) hx hb dX1_dataOf_17 (by decide) ?_
      refine lv_iand hx hb dX1_dataOf_18 ?_
      refine lv_ior hx hb dX1_dataOf_19 ?_
      refine lv_istore_n (lv' := [(1, .int ((q <<< (1 &&& 31)) ||| ((cl >>> ((2 * (nI n)) &&& 31)) &&& 1))), (0, .int cl), (2, .int (nI n))]) hx hb dX1_dataOf_20 rfl hl (by decide) rfl (fun ls hl => ?_)
      refine lv_iinc (v := (nI n) + (-1)) (lv' := [(2, .int ((nI n) + (-1))), (1, .int ((q <<< (1 &&& 31)) ||| ((cl >>> ((2 * (nI n)) &&& 31)) &&& 1))), (0, .int cl)]) hx hb dX1_dataOf_21 hl (k := 2) rfl rfl (by decide) rfl (fun ls hl => ?_)
      refine lv_goto (tgt := 5) hx hb dX1_dataOf_24 (by decide) ?_
      exact ih _ (by omega) (by rw [fDa] at hres_l1; exact hres_l1) _ ls hS (lv_sub hl [2, 1, 0] rfl)
  refine lv_iconst (v := 0) hx hb dX1_dataOf_0 (by decide) ?_
  refine lv_istore_n (lv' := [(1, .int 0), (0, .int cl)]) hx hb dX1_dataOf_1 rfl hl (by decide) rfl (fun ls hl => ?_)
  refine lv_bipush (v := 7) hx hb dX1_dataOf_2 (by decide) ?_
  refine lv_istore_n (lv' := [(2, .int 7), (1, .int 0), (0, .int cl)]) hx hb dX1_dataOf_4 rfl hl (by decide) rfl (fun ls hl => ?_)
  exact l1 8 0 (Nat.le_refl 8) rfl _ ls hS (lv_sub hl [2, 1, 0] rfl)
set_option maxHeartbeats 4000000 in
set_option maxRecDepth 100000 in
theorem c_X2_isBetter (l : Launch) (a : Int64) (b : Int64) (c1 : Int64) (d : Int64) : pc_i l yX2_isBetter wsX2_isBetter ({ frames := 0, cells := 0, slots := 0, locals := 0 } : Room) [.long a, .long b, .long c1, .long d] (fBetter a b c1 d) := by
  intro H0
  refine Met.ofW (cc := cX2_isBetter) (maxL := 8) (ret := (some .boolean)) (by decide) rfl ?_
  intro p e s m args below meth c s₁ B hml hv
  obtain ⟨rfl, rfl⟩ := hv
  have hx := B.exec
  have hb := B.bytes
  have hr := B.returns
  have hts := atoms_spec (ws := wsX2_isBetter) B.pre
  have hown : s.vm.findClass RX2 = some m.cls := findClass_of_methodNamed B.named
  have hlocks := B.notSynchronized
  have hS : va_S (fun q => s.heap.size ≤ q) s.heap s.heap [] := va_S.rf
  have hA : ∀ q : Nat, s.heap.size ≤ q → (fun q : Nat => s.heap.size ≤ q) q := fun _ h => h
  have hl := lv_entry ([.long a, .long b, .long c1, .long d]) (n := 8) (Nat.le_of_ble_eq_true rfl)
  rw [lg_entry_eq]
  generalize (lg_sl ([.long a, .long b, .long c1, .long d]) ++ List.replicate (8 - (lg_sl ([.long a, .long b, .long c1, .long d])).length) Slot.unset).toArray = ls at hl ⊢
  have hl : lv_has ls 8 [(0, .long a), (2, .long b), (4, .long c1), (6, .long d)] := hl
  refine lv_lload_n hx hb dX2_isBetter_0 rfl (lv_at hl 0 rfl) ?_
  refine lv_lload hx hb dX2_isBetter_1 (lv_at hl 2 rfl) ?_
  refine W.lcmp hx hb dX2_isBetter_3 ?_
  refine lv_if_lt (tgt := 21) hx hb dX2_isBetter_4 (by decide) (fun c_4 => ?_) (fun c_4 => ?_)
  · refine lv_iconst (v := 1) hx hb dX2_isBetter_21 (by decide) ?_
    refine lv_goto (tgt := 26) hx hb dX2_isBetter_22 (by decide) ?_
    exact W.zret (v := 1) hx hb hr (by first | rfl | decide) (fun t ht hW => ⟨⟨1, (), rfl, (if_pos (Or.inl ((lg_cmp_lt _ _).mp c_4))).symm, ht⟩, hS.F ht⟩) hS.2.2 dX2_isBetter_26
  · refine lv_lload_n hx hb dX2_isBetter_7 rfl (lv_at hl 0 rfl) ?_
    refine lv_lload hx hb dX2_isBetter_8 (lv_at hl 2 rfl) ?_
    refine W.lcmp hx hb dX2_isBetter_10 ?_
    refine lv_if_ne (tgt := 25) hx hb dX2_isBetter_11 (by decide) (fun c_11 => ?_) (fun c_11 => ?_)
    · refine lv_iconst (v := 0) hx hb dX2_isBetter_25 (by decide) ?_
      exact W.zret (v := 0) hx hb hr (by first | rfl | decide) (fun t ht hW => ⟨⟨0, (), rfl, (if_neg (fun h => h.elim (fun h => c_4 ((lg_cmp_lt _ _).mpr h)) (fun h => c_11 ((lg_cmp_eq _ _).mpr h.1)))).symm, ht⟩, hS.F ht⟩) hS.2.2 dX2_isBetter_26
    · refine lv_lload_n hx hb dX2_isBetter_14 rfl (lv_at hl 1 rfl) ?_
      refine lv_lload hx hb dX2_isBetter_15 (lv_at hl 3 rfl) ?_
      refine W.lcmp hx hb dX2_isBetter_17 ?_
      refine lv_if_ge (tgt := 25) hx hb dX2_isBetter_18 (by decide) (fun c_18 => ?_) (fun c_18 => ?_)
      · refine lv_iconst (v := 0) hx hb dX2_isBetter_25 (by decide) ?_
        exact W.zret (v := 0) hx hb hr (by first | rfl | decide) (fun t ht hW => ⟨⟨0, (), rfl, (if_neg (fun h => h.elim (fun h => c_4 ((lg_cmp_lt _ _).mpr h)) (fun h => absurd h.2 (Int64.not_lt.mpr ((lg_cmp_ge _ _).mp c_18))))).symm, ht⟩, hS.F ht⟩) hS.2.2 dX2_isBetter_26
      · refine lv_iconst (v := 1) hx hb dX2_isBetter_21 (by decide) ?_
        refine lv_goto (tgt := 26) hx hb dX2_isBetter_22 (by decide) ?_
        exact W.zret (v := 1) hx hb hr (by first | rfl | decide) (fun t ht hW => ⟨⟨1, (), rfl, (if_pos (Or.inr ⟨(lg_cmp_eq _ _).mp c_11, Int64.not_le.mp (fun h => c_18 ((lg_cmp_ge _ _).mpr h))⟩)).symm, ht⟩, hS.F ht⟩) hS.2.2 dX2_isBetter_26
set_option maxHeartbeats 4000000 in
set_option maxRecDepth 100000 in
theorem c_L_product (l : Launch) (a : Int32) (b : Int32) : pc_i l yL_product wsL_product ({ frames := 0, cells := 0, slots := 0, locals := 0 } : Room) [.int a, .int b] (gProd a b) := by
  intro H0
  refine Met.ofW (cc := cL_product) (maxL := 5) (ret := (some .int)) (by decide) rfl ?_
  intro p e s m args below meth c s₁ B hml hv
  obtain ⟨rfl, rfl⟩ := hv
  have hx := B.exec
  have hb := B.bytes
  have hr := B.returns
  have hts := atoms_spec (ws := wsL_product) B.pre
  have hown : s.vm.findClass RL = some m.cls := findClass_of_methodNamed B.named
  have hlocks := B.notSynchronized
  have hS : va_S (fun q => s.heap.size ≤ q) s.heap s.heap [] := va_S.rf
  have hA : ∀ q : Nat, s.heap.size ≤ q → (fun q : Nat => s.heap.size ≤ q) q := fun _ h => h
  have hl := lv_entry ([.int a, .int b]) (n := 5) (Nat.le_of_ble_eq_true rfl)
  rw [lg_entry_eq]
  generalize (lg_sl ([.int a, .int b]) ++ List.replicate (5 - (lg_sl ([.int a, .int b])).length) Slot.unset).toArray = ls at hl ⊢
  have hl : lv_has ls 5 [(0, .int a), (1, .int b)] := hl
  have l1 : ∀ (n k : Nat) (q : Int32) (lf : Int32), k + n = 4 → gPr b n k q lf = gProd a b → ∀ (locs : List Loc) (ls : Array Slot), va_S (fun q => s.heap.size ≤ q) s.heap s.heap locs → lv_has ls 5 [(0, .int a), (1, .int b), (2, .int q), (3, .int lf), (4, .int (nI k))] → pW_i p l e wsL_product ({ frames := 0, cells := 0, slots := 0, locals := 0 } : Room) s m ([.int a, .int b] : List Value).toArray below meth c (gProd a b) locs (F0 m 7 ls []) := by
    intro n
    induction n with
    | zero =>
      intro k q lf hk_l1  hres_l1 locs ls hS hl
      obtain rfl : k = 4 := by omega
      refine lv_iload hx hb dL_product_7 (lv_at hl 4 rfl) ?_
      refine lv_iconst (v := 4) hx hb dL_product_9 (by decide) ?_
      refine lv_icmp_ge (tgt := 49) hx hb dL_product_10 (by decide) (fun c_10 => ?_) (fun c_10 => absurd c_10 (by decide))
      refine lv_iload_n hx hb dL_product_49 rfl (lv_at hl 2 rfl) ?_
      exact W.iret (v := q) hx hb hr (fun t ht hW => ⟨⟨q, (), rfl, hres_l1, ht⟩, hS.F ht⟩) hS.2.2 dL_product_50
    | succ n ih =>
      intro k q lf hk_l1  hres_l1 locs ls hS hl
      refine lv_iload hx hb dL_product_7 (lv_at hl 4 rfl) ?_
      refine lv_iconst (v := 4) hx hb dL_product_9 (by decide) ?_
      refine lv_icmp_ge (tgt := 49) hx hb dL_product_10 (by decide) (fun c_10 => absurd c_10 (nI_ge (a := k) (b := 4) (by omega) (by omega))) (fun c_10 => ?_)
      refine lv_iload_n hx hb dL_product_13 rfl (lv_at hl 2 rfl) ?_
      refine lv_iload_n hx hb dL_product_14 rfl (lv_at hl 1 rfl) ?_
      refine lv_iload hx hb dL_product_15 (lv_at hl 4 rfl) ?_
      refine lv_ishr hx hb dL_product_17 ?_
      refine lv_iconst (v := 1) hx hb dL_product_18 (by decide) ?_
      refine lv_iand hx hb dL_product_19 ?_
      refine lv_iload_n hx hb dL_product_20 rfl (lv_at hl 3 rfl) ?_
      refine lv_imul hx hb dL_product_21 ?_
      refine lv_ixor hx hb dL_product_22 ?_
      refine lv_istore_n (lv' := [(2, .int (q ^^^ (((b >>> ((nI k) &&& 31)) &&& 1) * lf))), (0, .int a), (1, .int b), (3, .int lf), (4, .int (nI k))]) hx hb dL_product_23 rfl hl (by decide) rfl (fun ls hl => ?_)
      refine lv_iload_n hx hb dL_product_24 rfl (lv_at hl 3 rfl) ?_
      refine lv_bipush (v := 8) hx hb dL_product_25 (by decide) ?_
      refine lv_icmp_ge (tgt := 36) hx hb dL_product_27 (by decide) (fun c_27 => ?_) (fun c_27 => ?_)
      · refine lv_iconst (v := 2) hx hb dL_product_36 (by decide) ?_
        refine lv_iload_n hx hb dL_product_37 rfl (lv_at hl 3 rfl) ?_
        refine lv_imul hx hb dL_product_38 ?_
        refine lv_bipush (v := 19) hx hb dL_product_39 (by decide) ?_
        refine lv_ixor hx hb dL_product_41 ?_
        refine lv_istore_n (lv' := [(3, .int ((2 * lf) ^^^ 19)), (2, .int (q ^^^ (((b >>> ((nI k) &&& 31)) &&& 1) * lf))), (0, .int a), (1, .int b), (4, .int (nI k))]) hx hb dL_product_42 rfl hl (by decide) rfl (fun ls hl => ?_)
        refine lv_iinc (v := nI (k + 1)) (lv' := [(4, .int (nI (k + 1))), (3, .int ((2 * lf) ^^^ 19)), (2, .int (q ^^^ (((b >>> ((nI k) &&& 31)) &&& 1) * lf))), (0, .int a), (1, .int b)]) hx hb dL_product_43 hl (k := 4) rfl (nI_1 _) (by decide) rfl (fun ls hl => ?_)
        refine lv_goto (tgt := 7) hx hb dL_product_46 (by decide) ?_
        exact ih (k + 1) _ _ (by omega) (by rw [gPr, if_neg (Int32.not_lt.mpr c_27)] at hres_l1; exact hres_l1) _ ls hS (lv_sub hl [3, 4, 2, 1, 0] rfl)
      · refine lv_iconst (v := 2) hx hb dL_product_30 (by decide) ?_
        refine lv_iload_n hx hb dL_product_31 rfl (lv_at hl 3 rfl) ?_
        refine lv_imul hx hb dL_product_32 ?_
        refine lv_goto (tgt := 42) hx hb dL_product_33 (by decide) ?_
        refine lv_istore_n (lv' := [(3, .int (2 * lf)), (2, .int (q ^^^ (((b >>> ((nI k) &&& 31)) &&& 1) * lf))), (0, .int a), (1, .int b), (4, .int (nI k))]) hx hb dL_product_42 rfl hl (by decide) rfl (fun ls hl => ?_)
        refine lv_iinc (v := nI (k + 1)) (lv' := [(4, .int (nI (k + 1))), (3, .int (2 * lf)), (2, .int (q ^^^ (((b >>> ((nI k) &&& 31)) &&& 1) * lf))), (0, .int a), (1, .int b)]) hx hb dL_product_43 hl (k := 4) rfl (nI_1 _) (by decide) rfl (fun ls hl => ?_)
        refine lv_goto (tgt := 7) hx hb dL_product_46 (by decide) ?_
        exact ih (k + 1) _ _ (by omega) (by rw [gPr, if_pos (Int32.not_le.mp c_27)] at hres_l1; exact hres_l1) _ ls hS (lv_sub hl [3, 4, 2, 1, 0] rfl)
  refine lv_iconst (v := 0) hx hb dL_product_0 (by decide) ?_
  refine lv_istore_n (lv' := [(2, .int 0), (0, .int a), (1, .int b)]) hx hb dL_product_1 rfl hl (by decide) rfl (fun ls hl => ?_)
  refine lv_iload_n hx hb dL_product_2 rfl (lv_at hl 1 rfl) ?_
  refine lv_istore_n (lv' := [(3, .int a), (2, .int 0), (0, .int a), (1, .int b)]) hx hb dL_product_3 rfl hl (by decide) rfl (fun ls hl => ?_)
  refine lv_iconst (v := 0) hx hb dL_product_4 (by decide) ?_
  refine lv_istore (lv' := [(4, .int 0), (3, .int a), (2, .int 0), (0, .int a), (1, .int b)]) hx hb dL_product_5 hl (by decide) rfl (fun ls hl => ?_)
  exact l1 4 0 0 a rfl rfl _ ls hS (lv_sub hl [3, 4, 2, 1, 0] rfl)
set_option maxHeartbeats 4000000 in
set_option maxRecDepth 100000 in
theorem c_L_isWord (l : Launch) (w : Int64) : pc_i l yL_isWord wsL_isWord ({ frames := 1, cells := 0, slots := 0, locals := 24 } : Room) [.long w] (gIsW w) := by
  intro H0
  refine Met.ofW (cc := cL_isWord) (maxL := 8) (ret := (some .boolean)) (by decide) rfl ?_
  intro p e s m args below meth c s₁ B hml hv
  obtain ⟨rfl, rfl⟩ := hv
  have hx := B.exec
  have hb := B.bytes
  have hr := B.returns
  have hts := atoms_spec (ws := wsL_isWord) B.pre
  have hown : s.vm.findClass RL = some m.cls := findClass_of_methodNamed B.named
  have hlocks := B.notSynchronized
  have hS : va_S (fun q => s.heap.size ≤ q) s.heap s.heap [] := va_S.rf
  have hA : ∀ q : Nat, s.heap.size ≤ q → (fun q : Nat => s.heap.size ≤ q) q := fun _ h => h
  have hl := lv_entry ([.long w]) (n := 8) (Nat.le_of_ble_eq_true rfl)
  rw [lg_entry_eq]
  generalize (lg_sl ([.long w]) ++ List.replicate (8 - (lg_sl ([.long w])).length) Slot.unset).toArray = ls at hl ⊢
  have hl : lv_has ls 8 [(0, .long w)] := hl
  have l1 : ∀ (n k : Nat) (q : Int32) (ro : Int32), k + n = 4 → q &&& 1 = q → gWO w n q ro = gIsW w → ∀ (locs : List Loc) (ls : Array Slot), va_S (fun q => s.heap.size ≤ q) s.heap s.heap locs → lv_has ls 8 [(0, .long w), (2, .int q), (3, .int ro), (4, .int (nI k))] → pW_i p l e wsL_isWord ({ frames := 1, cells := 0, slots := 0, locals := 24 } : Room) s m ([.long w] : List Value).toArray below meth c (gIsW w) locs (F0 m 7 ls []) := by
    intro n
    induction n with
    | zero =>
      intro k q ro hk_l1 hq hres_l1 locs ls hS hl
      obtain rfl : k = 4 := by omega
      refine lv_iload hx hb dL_isWord_7 (lv_at hl 3 rfl) ?_
      refine lv_iconst (v := 4) hx hb dL_isWord_9 (by decide) ?_
      refine lv_icmp_ge (tgt := 84) hx hb dL_isWord_10 (by decide) (fun c_10 => ?_) (fun c_10 => absurd c_10 (by decide))
      refine lv_iload_n hx hb dL_isWord_84 rfl (lv_at hl 1 rfl) ?_
      exact W.zret (v := q) hx hb hr (congrArg Value.int hq) (fun t ht hW => ⟨⟨q, (), rfl, hres_l1, ht⟩, hS.F ht⟩) hS.2.2 dL_isWord_85
    | succ n ih =>
      intro k q ro hk_l1 hq hres_l1 locs ls hS hl
      have l2 : ∀ (n2 j : Nat) (z : Int32) (fa : Int32), j + n2 = 8 → gWI w ro n2 j z fa = gWI w ro 8 0 0 1 → ∀ (locs : List Loc) (ls : Array Slot), va_S (fun q => s.heap.size ≤ q) s.heap s.heap locs → lv_has ls 8 [(0, .long w), (2, .int q), (3, .int ro), (4, .int (nI k)), (5, .int z), (6, .int fa), (7, .int (nI j))] → pW_i p l e wsL_isWord ({ frames := 1, cells := 0, slots := 0, locals := 24 } : Room) s m ([.long w] : List Value).toArray below meth c (gIsW w) locs (F0 m 22 ls []) := by
        intro n2
        induction n2 with
        | zero =>
          intro j z fa hk_l2  hres_l2 locs ls hS hl
          obtain rfl : j = 8 := by omega
          refine lv_iload hx hb dL_isWord_22 (lv_at hl 6 rfl) ?_
          refine lv_bipush (v := 8) hx hb dL_isWord_24 (by decide) ?_
          refine lv_icmp_ge (tgt := 59) hx hb dL_isWord_26 (by decide) (fun c_26 => ?_) (fun c_26 => absurd c_26 (by decide))
          refine lv_iload_n hx hb dL_isWord_59 rfl (lv_at hl 1 rfl) ?_
          refine lv_iload hx hb dL_isWord_60 (lv_at hl 4 rfl) ?_
          refine lv_if_ne (tgt := 69) hx hb dL_isWord_62 (by decide) (fun c_62 => ?_) (fun c_62 => ?_)
          · refine lv_iconst (v := 0) hx hb dL_isWord_69 (by decide) ?_
            refine lv_iand hx hb dL_isWord_70 ?_
            refine lv_istore_n (lv' := [(2, .int (q &&& 0)), (0, .long w), (3, .int ro), (4, .int (nI k)), (5, .int z), (6, .int fa), (7, .int (nI 8))]) hx hb dL_isWord_71 rfl hl (by decide) rfl (fun ls hl => ?_)
            refine lv_iload_n hx hb dL_isWord_72 rfl (lv_at hl 2 rfl) ?_
            refine lv_iconst (v := 2) hx hb dL_isWord_73 (by decide) ?_
            refine pu_calli (As := [.int ro, .int 2]) (rest := []) ⟨hx, hb, hml, hown, hts⟩ (c_L_product l ro 2) (va_cwS 2 hts gL_isWord_L_product rfl rfl rfl (by decide +kernel) ⟨(Nat.le_of_ble_eq_true rfl), (Nat.le_of_ble_eq_true rfl)⟩) rfl hl.1 (lv_room (Nat.le_of_ble_eq_true rfl)) dL_isWord_74 ⟨Nat.zero_le _, Nat.zero_le _⟩ hS hA rfl (fun locs hS => ?_)
            refine lv_istore_n (lv' := [(3, .int (gProd ro 2)), (2, .int (q &&& 0)), (0, .long w), (4, .int (nI k)), (5, .int z), (6, .int fa), (7, .int (nI 8))]) hx hb dL_isWord_77 rfl hl (by decide) rfl (fun ls hl => ?_)
            refine lv_iinc (v := nI (k + 1)) (lv' := [(4, .int (nI (k + 1))), (3, .int (gProd ro 2)), (2, .int (q &&& 0)), (0, .long w), (5, .int z), (6, .int fa), (7, .int (nI 8))]) hx hb dL_isWord_78 hl (k := 3) rfl (nI_1 _) (by decide) rfl (fun ls hl => ?_)
            refine lv_goto (tgt := 7) hx hb dL_isWord_81 (by decide) ?_
            exact ih (k + 1) _ _ (by omega) (by rw [Int32.and_assoc]; rfl) (by rw [gWO, ← hres_l2, gWI, if_neg c_62] at hres_l1; exact hres_l1) _ ls hS (lv_sub hl [3, 2, 1, 0] rfl)
          · refine lv_iconst (v := 1) hx hb dL_isWord_65 (by decide) ?_
            refine lv_goto (tgt := 70) hx hb dL_isWord_66 (by decide) ?_
            refine lv_iand hx hb dL_isWord_70 ?_
            refine lv_istore_n (lv' := [(2, .int (q &&& 1)), (0, .long w), (3, .int ro), (4, .int (nI k)), (5, .int z), (6, .int fa), (7, .int (nI 8))]) hx hb dL_isWord_71 rfl hl (by decide) rfl (fun ls hl => ?_)
            refine lv_iload_n hx hb dL_isWord_72 rfl (lv_at hl 2 rfl) ?_
            refine lv_iconst (v := 2) hx hb dL_isWord_73 (by decide) ?_
            refine pu_calli (As := [.int ro, .int 2]) (rest := []) ⟨hx, hb, hml, hown, hts⟩ (c_L_product l ro 2) (va_cwS 2 hts gL_isWord_L_product rfl rfl rfl (by decide +kernel) ⟨(Nat.le_of_ble_eq_true rfl), (Nat.le_of_ble_eq_true rfl)⟩) rfl hl.1 (lv_room (Nat.le_of_ble_eq_true rfl)) dL_isWord_74 ⟨Nat.zero_le _, Nat.zero_le _⟩ hS hA rfl (fun locs hS => ?_)
            refine lv_istore_n (lv' := [(3, .int (gProd ro 2)), (2, .int (q &&& 1)), (0, .long w), (4, .int (nI k)), (5, .int z), (6, .int fa), (7, .int (nI 8))]) hx hb dL_isWord_77 rfl hl (by decide) rfl (fun ls hl => ?_)
            refine lv_iinc (v := nI (k + 1)) (lv' := [(4, .int (nI (k + 1))), (3, .int (gProd ro 2)), (2, .int (q &&& 1)), (0, .long w), (5, .int z), (6, .int fa), (7, .int (nI 8))]) hx hb dL_isWord_78 hl (k := 3) rfl (nI_1 _) (by decide) rfl (fun ls hl => ?_)
            refine lv_goto (tgt := 7) hx hb dL_isWord_81 (by decide) ?_
            exact ih (k + 1) _ _ (by omega) (by rw [Int32.and_assoc]; rfl) (by rw [gWO, ← hres_l2, gWI, if_pos c_62] at hres_l1; exact hres_l1) _ ls hS (lv_sub hl [3, 2, 1, 0] rfl)
        | succ n2 ih2 =>
          intro j z fa hk_l2  hres_l2 locs ls hS hl
          refine lv_iload hx hb dL_isWord_22 (lv_at hl 6 rfl) ?_
          refine lv_bipush (v := 8) hx hb dL_isWord_24 (by decide) ?_
          refine lv_icmp_ge (tgt := 59) hx hb dL_isWord_26 (by decide) (fun c_26 => absurd c_26 (nI_ge (a := j) (b := 8) (by omega) (by omega))) (fun c_26 => ?_)
          refine lv_iload hx hb dL_isWord_29 (lv_at hl 4 rfl) ?_
          refine lv_lload_n hx hb dL_isWord_31 rfl (lv_at hl 0 rfl) ?_
          refine lv_iload hx hb dL_isWord_32 (lv_at hl 6 rfl) ?_
          refine pu_calli (As := [.long w, .int (nI j)]) (rest := [.int z]) ⟨hx, hb, hml, hown, hts⟩ (c_L_nibble l w (nI j)) (va_cwS 2 hts gL_isWord_L_nibble rfl rfl rfl (by decide +kernel) ⟨(Nat.le_of_ble_eq_true rfl), (Nat.le_of_ble_eq_true rfl)⟩) rfl hl.1 (lv_room (Nat.le_of_ble_eq_true rfl)) dL_isWord_34 ⟨Nat.zero_le _, Nat.zero_le _⟩ hS hA rfl (fun locs hS => ?_)
          refine lv_iload hx hb dL_isWord_37 (lv_at hl 5 rfl) ?_
          refine pu_calli (As := [.int (gNib w (nI j)), .int fa]) (rest := [.int z]) ⟨hx, hb, hml, hown, hts⟩ (c_L_product l (gNib w (nI j)) fa) (va_cwS 2 hts gL_isWord_L_product rfl rfl rfl (by decide +kernel) ⟨(Nat.le_of_ble_eq_true rfl), (Nat.le_of_ble_eq_true rfl)⟩) rfl hl.1 (lv_room (Nat.le_of_ble_eq_true rfl)) dL_isWord_39 ⟨Nat.zero_le _, Nat.zero_le _⟩ hS hA rfl (fun locs hS => ?_)
          refine lv_ixor hx hb dL_isWord_42 ?_
          refine lv_istore (lv' := [(5, .int (z ^^^ (gProd (gNib w (nI j)) fa))), (0, .long w), (2, .int q), (3, .int ro), (4, .int (nI k)), (6, .int fa), (7, .int (nI j))]) hx hb dL_isWord_43 hl (by decide) rfl (fun ls hl => ?_)
          refine lv_iload hx hb dL_isWord_45 (lv_at hl 5 rfl) ?_
          refine lv_iload_n hx hb dL_isWord_47 rfl (lv_at hl 3 rfl) ?_
          refine pu_calli (As := [.int fa, .int ro]) (rest := []) ⟨hx, hb, hml, hown, hts⟩ (c_L_product l fa ro) (va_cwS 2 hts gL_isWord_L_product rfl rfl rfl (by decide +kernel) ⟨(Nat.le_of_ble_eq_true rfl), (Nat.le_of_ble_eq_true rfl)⟩) rfl hl.1 (lv_room (Nat.le_of_ble_eq_true rfl)) dL_isWord_48 ⟨Nat.zero_le _, Nat.zero_le _⟩ hS hA rfl (fun locs hS => ?_)
          refine lv_istore (lv' := [(6, .int (gProd fa ro)), (5, .int (z ^^^ (gProd (gNib w (nI j)) fa))), (0, .long w), (2, .int q), (3, .int ro), (4, .int (nI k)), (7, .int (nI j))]) hx hb dL_isWord_51 hl (by decide) rfl (fun ls hl => ?_)
          refine lv_iinc (v := nI (j + 1)) (lv' := [(7, .int (nI (j + 1))), (6, .int (gProd fa ro)), (5, .int (z ^^^ (gProd (gNib w (nI j)) fa))), (0, .long w), (2, .int q), (3, .int ro), (4, .int (nI k))]) hx hb dL_isWord_53 hl (k := 6) rfl (nI_1 _) (by decide) rfl (fun ls hl => ?_)
          refine lv_goto (tgt := 22) hx hb dL_isWord_56 (by decide) ?_
          exact ih2 (j + 1) _ _ (by omega) (by rw [gWI] at hres_l2; exact hres_l2) _ ls hS (lv_sub hl [3, 4, 5, 6, 2, 1, 0] rfl)
      refine lv_iload hx hb dL_isWord_7 (lv_at hl 3 rfl) ?_
      refine lv_iconst (v := 4) hx hb dL_isWord_9 (by decide) ?_
      refine lv_icmp_ge (tgt := 84) hx hb dL_isWord_10 (by decide) (fun c_10 => absurd c_10 (nI_ge (a := k) (b := 4) (by omega) (by omega))) (fun c_10 => ?_)
      refine lv_iconst (v := 0) hx hb dL_isWord_13 (by decide) ?_
      refine lv_istore (lv' := [(5, .int 0), (0, .long w), (2, .int q), (3, .int ro), (4, .int (nI k))]) hx hb dL_isWord_14 hl (by decide) rfl (fun ls hl => ?_)
      refine lv_iconst (v := 1) hx hb dL_isWord_16 (by decide) ?_
      refine lv_istore (lv' := [(6, .int 1), (5, .int 0), (0, .long w), (2, .int q), (3, .int ro), (4, .int (nI k))]) hx hb dL_isWord_17 hl (by decide) rfl (fun ls hl => ?_)
      refine lv_iconst (v := 0) hx hb dL_isWord_19 (by decide) ?_
      refine lv_istore (lv' := [(7, .int 0), (6, .int 1), (5, .int 0), (0, .long w), (2, .int q), (3, .int ro), (4, .int (nI k))]) hx hb dL_isWord_20 hl (by decide) rfl (fun ls hl => ?_)
      exact l2 8 0 0 1 rfl rfl _ ls hS (lv_sub hl [3, 4, 5, 6, 2, 1, 0] rfl)
  refine lv_iconst (v := 1) hx hb dL_isWord_0 (by decide) ?_
  refine lv_istore_n (lv' := [(2, .int 1), (0, .long w)]) hx hb dL_isWord_1 rfl hl (by decide) rfl (fun ls hl => ?_)
  refine lv_iconst (v := 1) hx hb dL_isWord_2 (by decide) ?_
  refine lv_istore_n (lv' := [(3, .int 1), (2, .int 1), (0, .long w)]) hx hb dL_isWord_3 rfl hl (by decide) rfl (fun ls hl => ?_)
  refine lv_iconst (v := 0) hx hb dL_isWord_4 (by decide) ?_
  refine lv_istore (lv' := [(4, .int 0), (3, .int 1), (2, .int 1), (0, .long w)]) hx hb dL_isWord_5 hl (by decide) rfl (fun ls hl => ?_)
  exact l1 4 0 1 1 rfl rfl rfl _ ls hS (lv_sub hl [3, 2, 1, 0] rfl)
