set_option maxHeartbeats 8000000 in
set_option maxRecDepth 100000 in
/-- a round of the law from 582 on: what five weak places lose, and the cells -/
theorem law_tail {p : Program} {e : Env} {s : State} {m : MethodId} {below : List Frame} {meth : Method} {c : Code} (l : Launch) {D : va_G} {cJ : ClassId} {b L : Nat} {xs : Nat → Int32} (hL : L ≤ 260) (C0 : lw_At p s m meth c b L xs) (CC : lawC l s D cJ) {v : Nat → Nat} {sa sq nu ns nn f : Nat → Int64} {k V : Nat} (hk : k < 6) (hV : V < 65536)
    (next : ∀ (H : Heap) (locs : List Loc) (ls : Array Slot), va_P D vwCl (oW cJ v 0 sa sq nu ns nn f) H → va_D (xA s) (oW cJ v 0 sa sq nu ns nn f) → va_S (xA s) s.heap H locs → lv_has ls 24 [(0, .ref b), (1, .ref (v 0)), (2, .int 1), (3, .int (nI (k + 1)))] → W p l e room_1 s m #[Value.ref b] below meth c H locs (60 + 10 * (k + 1)) (700 + 60 * (k + 1)) (lw_Z below #[Value.ref b] s) (F0 m 74 ls [])) :
    ∀ (H : Heap) (locs : List Loc) (ls : Array Slot), va_P D vwCl (oW cJ v 0 sa sq nu ns nn f) H → va_D (xA s) (oW cJ v 0 sa sq nu ns nn f) → va_S (xA s) s.heap H locs → lv_has ls 24 [(0, .ref b), (1, .ref (v 0)), (2, .int 1), (3, .int (nI k)), (5, .long (lN (wN V)))] → W p l e room_1 s m #[Value.ref b] below meth c H locs (60 + 10 * k + 4) (700 + 60 * k + 24) (lw_Z below #[Value.ref b] s) (F0 m 582 ls []) := by
  obtain ⟨hx, hb, hr, hml, hown, hts, hX, hbl, hlocks, hgv⟩ := id C0
  obtain ⟨hstk, hK, hxI, hxN, hNc, hZone⟩ := id CC
  have htl : ∀ w ∈ wsL_law, w.before #[Value.ref b] s = true := fun w h => hts w (wsL_law_in w h)
  have hts : ∀ w ∈ wsL_law, w.before #[Value.ref b] s = true := htl
  have hA : ∀ q : Nat, s.heap.size ≤ q → xA s q := fun _ h => h
  have hbA : ¬ xA s b := Nat.not_le.mpr hbl
  have hn : wN V < 2 ^ 32 := wN_lt hV
  intro H locs ls hP hD hS hl
  refine lv_iload_n hx hb dL_law_582 rfl (lv_at hl 2 rfl) ?_
  refine lv_aload_n hx hb dL_law_583 rfl (lv_at hl 1 rfl) ?_
  refine lv_lload hx hb dL_law_584 (lv_at hl 4 rfl) ?_
  refine lv_bipush (v := 31) hx hb dL_law_586 (by decide) ?_
  refine lx_calli (As := [.ref (v 0), .long (lN (wN V)), .int 31]) (rest := [.int 1]) ⟨hx, hb, hml, hown, htl⟩ (x_L_mend_3 l hstk (v 0) (lN (wN V)) 31 (lN_nn hn) (lN_top hn) (by decide) (by decide) (rep_31 hn)) (vx_cwSW 3 htl gL_law_L_mend rfl rfl rfl (by decide +kernel) ⟨(Nat.le_of_ble_eq_true rfl), (Nat.le_of_ble_eq_true rfl)⟩) (va_recv hK hP (ci := 6) (q0 := 0) rfl rfl) rfl hl.1 (lv_room (Nat.le_of_ble_eq_true rfl)) dL_law_588 ⟨(by show _ ≤ 604962; omega), (by show _ ≤ 7286739; omega)⟩ hS rfl hxN hNc (fun H1 locs hkeep hS => ?_)
  have hP := hP.kept (fun k q hk => hkeep q.1 ((hP k q hk).lt))
  refine lv_ldc (v := (-900002)) hx hb hown (hts (.constant RL 26 (-900002)) (by decide +kernel)) dL_law_591 ?_
  refine lv_icmp_ne (tgt := 613) hx hb dL_law_593 (by decide) (fun c_593 => absurd c_593 (by decide)) (fun c_593 => ?_)
  refine lv_aload_n hx hb dL_law_596 rfl (lv_at hl 1 rfl) ?_
  refine lv_lload hx hb dL_law_597 (lv_at hl 4 rfl) ?_
  refine lv_bipush (v := 31) hx hb dL_law_599 (by decide) ?_
  refine lx_calli (As := [.ref (v 0), .long (lN (wN V)), .int 31]) (rest := [.int 1]) ⟨hx, hb, hml, hown, htl⟩ (x_L_mended_3 l hstk (v 0) (lN (wN V)) 31 (lN_nn hn) (lN_top hn) (by decide) (by decide) (rep_31 hn)) (vx_cwSW 3 htl gL_law_L_mended rfl rfl rfl (by decide +kernel) ⟨(Nat.le_of_ble_eq_true rfl), (Nat.le_of_ble_eq_true rfl)⟩) (va_recv hK hP (ci := 6) (q0 := 0) rfl rfl) rfl hl.1 (lv_room (Nat.le_of_ble_eq_true rfl)) dL_law_601 ⟨(by show _ ≤ 604962; omega), (by show _ ≤ 7286739; omega)⟩ hS rfl hxN hNc (fun H1 locs hkeep hS => ?_)
  have hP := hP.kept (fun k q hk => hkeep q.1 ((hP k q hk).lt))
  refine lv_ldc (v := (-900002)) hx hb hown (hts (.constant RL 26 (-900002)) (by decide +kernel)) dL_law_604 ?_
  refine lv_icmp_ne (tgt := 613) hx hb dL_law_606 (by decide) (fun c_606 => absurd c_606 (by decide)) (fun c_606 => ?_)
  refine lv_iconst (v := 1) hx hb dL_law_609 (by decide) ?_
  refine lv_goto (tgt := 614) hx hb dL_law_610 (by decide) ?_
  refine lv_iand hx hb dL_law_614 ?_
  refine lv_istore_n (lv' := [(2, .int 1), (0, .ref b), (1, .ref (v 0)), (3, .int (nI k)), (5, .long (lN (wN V)))]) hx hb dL_law_615 rfl hl (by decide) rfl (fun ls hl => ?_)
  refine lv_aload_n hx hb dL_law_616 rfl (lv_at hl 1 rfl) ?_
  refine lv_bipush (v := 80) hx hb dL_law_617 (by decide) ?_
  refine lv_iload_n hx hb dL_law_619 rfl (lv_at hl 3 rfl) ?_
  refine lv_iadd hx hb dL_law_620 ?_
  refine lv_topi (fun y ey => ?_)
  obtain rfl : y = nI (80 + k) := ey.trans (nI_add 80 k)
  refine lv_sipush (v := 256) hx hb dL_law_621 (by decide) ?_
  refine sc_calli (As := [.ref b, .int (nI (80 + k)), .int 256]) (rest := []) ⟨hx, hb, hml, hown, htl⟩ (c_L_in l b L (80 + k) hL (by omega) xs 256 (by decide)) (va_cwS 3 htl gL_law_L_in rfl rfl rfl (by decide +kernel) ⟨(Nat.le_of_ble_eq_true rfl), (Nat.le_of_ble_eq_true rfl)⟩) rfl hl.1 (lv_room (Nat.le_of_ble_eq_true rfl)) dL_law_624 ⟨(by show _ ≤ 604962; omega), (by show _ ≤ 7286739; omega)⟩ hS hA rfl (hX.kept (hS.2.1 b hbl hbA)) (Nat.lt_of_lt_of_le hbl hS.1) (fun locs hS => ?_)
  obtain ⟨dd, hdd, edd⟩ := gIn_lt L xs (80 + k) (N := 256) (by decide) (by decide)
  refine lv_topi (fun y ey => ?_)
  obtain rfl : y = nI dd := ey.trans (edd)
  refine lv_istore (lv' := [(18, .int (nI dd)), (2, .int 1), (0, .ref b), (1, .ref (v 0)), (3, .int (nI k)), (5, .long (lN (wN V)))]) hx hb dL_law_627 hl (by decide) rfl (fun ls hl => ?_)
  refine lv_aload_n hx hb dL_law_629 rfl (lv_at hl 2 rfl) ?_
  refine lv_bipush (v := 90) hx hb dL_law_630 (by decide) ?_
  refine lv_iload_n hx hb dL_law_632 rfl (lv_at hl 4 rfl) ?_
  refine lv_iadd hx hb dL_law_633 ?_
  refine lv_topi (fun y ey => ?_)
  obtain rfl : y = nI (90 + k) := ey.trans (nI_add 90 k)
  refine lv_iconst (v := 2) hx hb dL_law_634 (by decide) ?_
  refine sc_calli (As := [.ref b, .int (nI (90 + k)), .int 2]) (rest := []) ⟨hx, hb, hml, hown, htl⟩ (c_L_in l b L (90 + k) hL (by omega) xs 2 (by decide)) (va_cwS 3 htl gL_law_L_in rfl rfl rfl (by decide +kernel) ⟨(Nat.le_of_ble_eq_true rfl), (Nat.le_of_ble_eq_true rfl)⟩) rfl hl.1 (lv_room (Nat.le_of_ble_eq_true rfl)) dL_law_635 ⟨(by show _ ≤ 604962; omega), (by show _ ≤ 7286739; omega)⟩ hS hA rfl (hX.kept (hS.2.1 b hbl hbA)) (Nat.lt_of_lt_of_le hbl hS.1) (fun locs hS => ?_)
  obtain ⟨bb, hbb, ebb⟩ := gIn_lt L xs (90 + k) (N := 2) (by decide) (by decide)
  refine lv_topi (fun y ey => ?_)
  obtain rfl : y = nI bb := ey.trans (ebb)
  refine lv_istore (lv' := [(19, .int (nI bb)), (18, .int (nI dd)), (2, .int 1), (0, .ref b), (1, .ref (v 0)), (3, .int (nI k)), (5, .long (lN (wN V)))]) hx hb dL_law_638 hl (by decide) rfl (fun ls hl => ?_)
  refine lv_iconst (v := 0) hx hb dL_law_640 (by decide) ?_
  refine lv_istore (lv' := [(20, .int 0), (19, .int (nI bb)), (18, .int (nI dd)), (2, .int 1), (0, .ref b), (1, .ref (v 0)), (3, .int (nI k)), (5, .long (lN (wN V)))]) hx hb dL_law_641 hl (by decide) rfl (fun ls hl => ?_)
  refine lv_iload hx hb dL_law_643 (lv_at hl 1 rfl) ?_
  refine lv_istore (lv' := [(21, .int (nI bb)), (20, .int 0), (19, .int (nI bb)), (18, .int (nI dd)), (2, .int 1), (0, .ref b), (1, .ref (v 0)), (3, .int (nI k)), (5, .long (lN (wN V)))]) hx hb dL_law_645 hl (by decide) rfl (fun ls hl => ?_)
  refine lv_bipush (v := 7) hx hb dL_law_647 (by decide) ?_
  refine lv_istore (lv' := [(22, .int 7), (21, .int (nI bb)), (20, .int 0), (19, .int (nI bb)), (18, .int (nI dd)), (2, .int 1), (0, .ref b), (1, .ref (v 0)), (3, .int (nI k)), (5, .long (lN (wN V)))]) hx hb dL_law_649 hl (by decide) rfl (fun ls hl => ?_)
  have l2 : ∀ (n : Nat) (q la : Int32), n ≤ 8 → lC (nI dd) n q la = lCells (nI dd) (nI bb) → ∀ (H : Heap) (locs : List Loc) (ls : Array Slot), va_P D vwCl (oW cJ v 0 sa sq nu ns nn f) H → va_D (xA s) (oW cJ v 0 sa sq nu ns nn f) → va_S (xA s) s.heap H locs → lv_has ls 24 [(0, .ref b), (1, .ref (v 0)), (2, .int 1), (3, .int (nI k)), (18, .int (nI dd)), (19, .int (nI bb)), (20, .int q), (21, .int la), (22, .int (nI n + (-1)))] → W p l e room_1 s m #[Value.ref b] below meth c H locs (60 + 10 * k + 4 + 1 + 1) (700 + 60 * k + 24 + 6 + 6) (lw_Z below #[Value.ref b] s) (F0 m 651 ls []) := by
    intro n
    induction n with
    | zero =>
      intro q la hn8 hres H locs ls hP hD hS hl
      have hq : q = lCells (nI dd) (nI bb) := hres
      obtain ⟨e1, e2, e3, e4⟩ := cell_ok hdd hbb
      rw [hq] at hl
      refine lv_iload hx hb dL_law_651 (lv_at hl 8 rfl) ?_
      refine lv_if_lt (tgt := 704) hx hb dL_law_653 (by decide) (fun c_653 => ?_) (fun c_653 => absurd c_653 (by decide))
      refine lv_iload_n hx hb dL_law_704 rfl (lv_at hl 2 rfl) ?_
      refine lv_aload_n hx hb dL_law_705 rfl (lv_at hl 1 rfl) ?_
      refine lv_iload hx hb dL_law_706 (lv_at hl 4 rfl) ?_
      refine lv_iload hx hb dL_law_708 (lv_at hl 5 rfl) ?_
      refine lo_calli (As := [.ref (v 0), .int (nI dd), .int (nI bb)]) (rest := [.int 1]) ⟨hx, hb, hml, hown, htl⟩ (c_L_encode l (v 0) (nI dd) (nI bb) (nI_lnn (by omega)) (nI_ltop (M := 255) (by omega) (by decide)) (nI_lnn (by omega)) (nI_ltop (M := 1) (by omega) (by decide))) (vx_cwSW 3 htl gL_law_L_encode rfl rfl rfl (by decide +kernel) ⟨(Nat.le_of_ble_eq_true rfl), (Nat.le_of_ble_eq_true rfl)⟩) (va_recv hK hP (ci := 6) (q0 := 0) rfl rfl) rfl hl.1 (lv_room (Nat.le_of_ble_eq_true rfl)) dL_law_710 ⟨(by show _ ≤ 604962; omega), (by show _ ≤ 7286739; omega)⟩ hS hA rfl (fun locs hS => ?_)
      refine lv_topi (fun y ey => ?_)
      obtain rfl : y = lCells (nI dd) (nI bb) := ey.trans (e1)
      refine lv_iload hx hb dL_law_713 (lv_at hl 6 rfl) ?_
      refine lv_icmp_ne (tgt := 763) hx hb dL_law_715 (by decide) (fun c_715 => absurd c_715 (fun h => h rfl)) (fun c_715 => ?_)
      refine lv_aload_n hx hb dL_law_718 rfl (lv_at hl 1 rfl) ?_
      refine lv_iload hx hb dL_law_719 (lv_at hl 6 rfl) ?_
      refine lv_iload hx hb dL_law_721 (lv_at hl 5 rfl) ?_
      refine lo_calli (As := [.ref (v 0), .int (lCells (nI dd) (nI bb)), .int (nI bb)]) (rest := [.int 1]) ⟨hx, hb, hml, hown, htl⟩ (c_L_decode l (v 0) (lCells (nI dd) (nI bb)) (nI bb) e3 e4 (nI_lnn (by omega)) (nI_ltop (M := 1) (by omega) (by decide)) (by rw [e2]; exact e1)) (vx_cwSW 3 htl gL_law_L_decode rfl rfl rfl (by decide +kernel) ⟨(Nat.le_of_ble_eq_true rfl), (Nat.le_of_ble_eq_true rfl)⟩) (va_recv hK hP (ci := 6) (q0 := 0) rfl rfl) rfl hl.1 (lv_room (Nat.le_of_ble_eq_true rfl)) dL_law_723 ⟨(by show _ ≤ 604962; omega), (by show _ ≤ 7286739; omega)⟩ hS hA rfl (fun locs hS => ?_)
      refine lv_topi (fun y ey => ?_)
      obtain rfl : y = nI dd := ey.trans (e2)
      refine lv_iload hx hb dL_law_726 (lv_at hl 4 rfl) ?_
      refine lv_icmp_ne (tgt := 763) hx hb dL_law_728 (by decide) (fun c_728 => absurd c_728 (fun h => h rfl)) (fun c_728 => ?_)
      refine lv_aload_n hx hb dL_law_731 rfl (lv_at hl 1 rfl) ?_
      refine lv_iload hx hb dL_law_732 (lv_at hl 6 rfl) ?_
      refine lv_iconst (v := 2) hx hb dL_law_734 (by decide) ?_
      refine lv_iconst (v := 2) hx hb dL_law_735 (by decide) ?_
      refine lv_aload_n hx hb dL_law_736 rfl (lv_at hl 0 rfl) ?_
      refine lv_bipush (v := 100) hx hb dL_law_737 (by decide) ?_
      refine lv_iload_n hx hb dL_law_739 rfl (lv_at hl 3 rfl) ?_
      refine lv_iadd hx hb dL_law_740 ?_
      refine lv_topi (fun y ey => ?_)
      obtain rfl : y = nI (100 + k) := ey.trans (nI_add 100 k)
      refine lv_bipush (v := 8) hx hb dL_law_741 (by decide) ?_
      refine sc_calli (As := [.ref b, .int (nI (100 + k)), .int 8]) (rest := [.int 2, .int 2, .int (lCells (nI dd) (nI bb)), .ref (v 0), .int 1]) ⟨hx, hb, hml, hown, htl⟩ (c_L_in l b L (100 + k) hL (by omega) xs 8 (by decide)) (va_cwS 3 htl gL_law_L_in rfl rfl rfl (by decide +kernel) ⟨(Nat.le_of_ble_eq_true rfl), (Nat.le_of_ble_eq_true rfl)⟩) rfl hl.1 (lv_room (Nat.le_of_ble_eq_true rfl)) dL_law_743 ⟨(by show _ ≤ 604962; omega), (by show _ ≤ 7286739; omega)⟩ hS hA rfl (hX.kept (hS.2.1 b hbl hbA)) (Nat.lt_of_lt_of_le hbl hS.1) (fun locs hS => ?_)
      obtain ⟨ii, hii, eii⟩ := gIn_lt L xs (100 + k) (N := 8) (by decide) (by decide)
      refine lv_topi (fun y ey => ?_)
      obtain rfl : y = nI ii := ey.trans (eii)
      refine lv_imul hx hb dL_law_746 ?_
      refine lv_ishl hx hb dL_law_747 ?_
      refine lv_ixor hx hb dL_law_748 ?_
      obtain ⟨f1, f2, f3⟩ := cell_no hdd hbb hii
      refine lv_iload hx hb dL_law_749 (lv_at hl 5 rfl) ?_
      refine lx_calli (As := [.ref (v 0), .int ((lCells (nI dd) (nI bb)) ^^^ ((2 : Int32) <<< ((2 * (nI ii)) &&& 31))), .int (nI bb)]) (rest := [.int 1]) ⟨hx, hb, hml, hown, htl⟩ (x_L_decode_2 l hstk (v 0) (lCells (nI dd) (nI bb) ^^^ ((2 : Int32) <<< ((2 * nI ii) &&& 31))) (nI bb) f2 f3 (nI_lnn (by omega)) (nI_ltop (M := 1) (by omega) (by decide)) f1) (vx_cwSW 3 htl gL_law_L_decode rfl rfl rfl (by decide +kernel) ⟨(Nat.le_of_ble_eq_true rfl), (Nat.le_of_ble_eq_true rfl)⟩) (va_recv hK hP (ci := 6) (q0 := 0) rfl rfl) rfl hl.1 (lv_room (Nat.le_of_ble_eq_true rfl)) dL_law_751 ⟨(by show _ ≤ 604962; omega), (by show _ ≤ 7286739; omega)⟩ hS rfl hxN hNc (fun H1 locs hkeep hS => ?_)
      have hP := hP.kept (fun k q hk => hkeep q.1 ((hP k q hk).lt))
      refine lv_ldc (v := (-900002)) hx hb hown (hts (.constant RL 26 (-900002)) (by decide +kernel)) dL_law_754 ?_
      refine lv_icmp_ne (tgt := 763) hx hb dL_law_756 (by decide) (fun c_756 => absurd c_756 (by decide)) (fun c_756 => ?_)
      refine lv_iconst (v := 1) hx hb dL_law_759 (by decide) ?_
      refine lv_goto (tgt := 764) hx hb dL_law_760 (by decide) ?_
      refine lv_iand hx hb dL_law_764 ?_
      refine lv_istore_n (lv' := [(2, .int 1), (0, .ref b), (1, .ref (v 0)), (3, .int (nI k)), (18, .int (nI dd)), (19, .int (nI bb)), (20, .int (lCells (nI dd) (nI bb))), (21, .int la), (22, .int (nI 0 + (-1)))]) hx hb dL_law_765 rfl hl (by decide) rfl (fun ls hl => ?_)
      refine lv_iinc (v := nI (k + 1)) (lv' := [(3, .int (nI (k + 1))), (2, .int 1), (0, .ref b), (1, .ref (v 0)), (18, .int (nI dd)), (19, .int (nI bb)), (20, .int (lCells (nI dd) (nI bb))), (21, .int la), (22, .int (nI 0 + (-1)))]) hx hb dL_law_766 hl (k := 3) rfl (nI_1 _) (by decide) rfl (fun ls hl => ?_)
      refine lv_goto (tgt := 74) hx hb dL_law_769 (by decide) ?_
      refine W.widen (k := 60 + 10 * (k + 1)) (n := 700 + 60 * (k + 1)) (by omega) (by omega) ?_
      exact next _ _ ls hP hD hS (lv_sub hl [2, 3, 1, 0] rfl)
    | succ n ih =>
      intro q la hn8 hres H locs ls hP hD hS hl
      rw [pk_m1 n] at hl
      refine lv_iload hx hb dL_law_651 (lv_at hl 8 rfl) ?_
      refine lv_if_lt (tgt := 704) hx hb dL_law_653 (by decide) (fun c_653 => absurd c_653 (nI_pos (n := n) (by omega))) (fun c_653 => ?_)
      refine lv_iload hx hb dL_law_656 (lv_at hl 4 rfl) ?_
      refine lv_iload hx hb dL_law_658 (lv_at hl 8 rfl) ?_
      refine lv_ishr hx hb dL_law_660 ?_
      refine lv_iconst (v := 1) hx hb dL_law_661 (by decide) ?_
      refine lv_iand hx hb dL_law_662 ?_
      refine lv_istore (lv' := [(23, .int (((nI dd) >>> ((nI n) &&& 31)) &&& 1)), (0, .ref b), (1, .ref (v 0)), (2, .int 1), (3, .int (nI k)), (18, .int (nI dd)), (19, .int (nI bb)), (20, .int q), (21, .int la), (22, .int (nI n))]) hx hb dL_law_663 hl (by decide) rfl (fun ls hl => ?_)
      refine lv_iconst (v := 2) hx hb dL_law_665 (by decide) ?_
      refine lv_iload hx hb dL_law_666 (lv_at hl 7 rfl) ?_
      refine lv_imul hx hb dL_law_668 ?_
      refine lv_iload hx hb dL_law_669 (lv_at hl 0 rfl) ?_
      refine lv_iload hx hb dL_law_671 (lv_at hl 8 rfl) ?_
      refine lv_iadd hx hb dL_law_673 ?_
      refine lv_if_ne (tgt := 681) hx hb dL_law_674 (by decide) (fun c_674 => ?_) (fun c_674 => ?_)
      · refine lv_iconst (v := 0) hx hb dL_law_681 (by decide) ?_
        refine lv_iadd hx hb dL_law_682 ?_
        refine lv_istore (lv' := [(20, .int ((2 * q) + 0)), (23, .int (((nI dd) >>> ((nI n) &&& 31)) &&& 1)), (0, .ref b), (1, .ref (v 0)), (2, .int 1), (3, .int (nI k)), (18, .int (nI dd)), (19, .int (nI bb)), (21, .int la), (22, .int (nI n))]) hx hb dL_law_683 hl (by decide) rfl (fun ls hl => ?_)
        refine lv_iconst (v := 2) hx hb dL_law_685 (by decide) ?_
        refine lv_iload hx hb dL_law_686 (lv_at hl 0 rfl) ?_
        refine lv_imul hx hb dL_law_688 ?_
        refine lv_iload hx hb dL_law_689 (lv_at hl 1 rfl) ?_
        refine lv_iadd hx hb dL_law_691 ?_
        refine lv_istore (lv' := [(20, .int ((2 * ((2 * q) + 0)) + (((nI dd) >>> ((nI n) &&& 31)) &&& 1))), (23, .int (((nI dd) >>> ((nI n) &&& 31)) &&& 1)), (0, .ref b), (1, .ref (v 0)), (2, .int 1), (3, .int (nI k)), (18, .int (nI dd)), (19, .int (nI bb)), (21, .int la), (22, .int (nI n))]) hx hb dL_law_692 hl (by decide) rfl (fun ls hl => ?_)
        refine lv_iload hx hb dL_law_694 (lv_at hl 1 rfl) ?_
        refine lv_istore (lv' := [(21, .int (((nI dd) >>> ((nI n) &&& 31)) &&& 1)), (20, .int ((2 * ((2 * q) + 0)) + (((nI dd) >>> ((nI n) &&& 31)) &&& 1))), (23, .int (((nI dd) >>> ((nI n) &&& 31)) &&& 1)), (0, .ref b), (1, .ref (v 0)), (2, .int 1), (3, .int (nI k)), (18, .int (nI dd)), (19, .int (nI bb)), (22, .int (nI n))]) hx hb dL_law_696 hl (by decide) rfl (fun ls hl => ?_)
        refine lv_iinc (v := (nI n) + (-1)) (lv' := [(22, .int ((nI n) + (-1))), (21, .int (((nI dd) >>> ((nI n) &&& 31)) &&& 1)), (20, .int ((2 * ((2 * q) + 0)) + (((nI dd) >>> ((nI n) &&& 31)) &&& 1))), (23, .int (((nI dd) >>> ((nI n) &&& 31)) &&& 1)), (0, .ref b), (1, .ref (v 0)), (2, .int 1), (3, .int (nI k)), (18, .int (nI dd)), (19, .int (nI bb))]) hx hb dL_law_698 hl (k := 9) rfl rfl (by decide) rfl (fun ls hl => ?_)
        refine lv_goto (tgt := 651) hx hb dL_law_701 (by decide) ?_
        exact ih _ _ (by omega) (by rw [lC, if_neg c_674] at hres; exact hres) _ _ ls hP hD hS (lv_sub hl [4, 5, 6, 7, 8, 9, 2, 1, 0] rfl)
      · refine lv_iconst (v := 1) hx hb dL_law_677 (by decide) ?_
        refine lv_goto (tgt := 682) hx hb dL_law_678 (by decide) ?_
        refine lv_iadd hx hb dL_law_682 ?_
        refine lv_istore (lv' := [(20, .int ((2 * q) + 1)), (23, .int (((nI dd) >>> ((nI n) &&& 31)) &&& 1)), (0, .ref b), (1, .ref (v 0)), (2, .int 1), (3, .int (nI k)), (18, .int (nI dd)), (19, .int (nI bb)), (21, .int la), (22, .int (nI n))]) hx hb dL_law_683 hl (by decide) rfl (fun ls hl => ?_)
        refine lv_iconst (v := 2) hx hb dL_law_685 (by decide) ?_
        refine lv_iload hx hb dL_law_686 (lv_at hl 0 rfl) ?_
        refine lv_imul hx hb dL_law_688 ?_
        refine lv_iload hx hb dL_law_689 (lv_at hl 1 rfl) ?_
        refine lv_iadd hx hb dL_law_691 ?_
        refine lv_istore (lv' := [(20, .int ((2 * ((2 * q) + 1)) + (((nI dd) >>> ((nI n) &&& 31)) &&& 1))), (23, .int (((nI dd) >>> ((nI n) &&& 31)) &&& 1)), (0, .ref b), (1, .ref (v 0)), (2, .int 1), (3, .int (nI k)), (18, .int (nI dd)), (19, .int (nI bb)), (21, .int la), (22, .int (nI n))]) hx hb dL_law_692 hl (by decide) rfl (fun ls hl => ?_)
        refine lv_iload hx hb dL_law_694 (lv_at hl 1 rfl) ?_
        refine lv_istore (lv' := [(21, .int (((nI dd) >>> ((nI n) &&& 31)) &&& 1)), (20, .int ((2 * ((2 * q) + 1)) + (((nI dd) >>> ((nI n) &&& 31)) &&& 1))), (23, .int (((nI dd) >>> ((nI n) &&& 31)) &&& 1)), (0, .ref b), (1, .ref (v 0)), (2, .int 1), (3, .int (nI k)), (18, .int (nI dd)), (19, .int (nI bb)), (22, .int (nI n))]) hx hb dL_law_696 hl (by decide) rfl (fun ls hl => ?_)
        refine lv_iinc (v := (nI n) + (-1)) (lv' := [(22, .int ((nI n) + (-1))), (21, .int (((nI dd) >>> ((nI n) &&& 31)) &&& 1)), (20, .int ((2 * ((2 * q) + 1)) + (((nI dd) >>> ((nI n) &&& 31)) &&& 1))), (23, .int (((nI dd) >>> ((nI n) &&& 31)) &&& 1)), (0, .ref b), (1, .ref (v 0)), (2, .int 1), (3, .int (nI k)), (18, .int (nI dd)), (19, .int (nI bb))]) hx hb dL_law_698 hl (k := 9) rfl rfl (by decide) rfl (fun ls hl => ?_)
        refine lv_goto (tgt := 651) hx hb dL_law_701 (by decide) ?_
        exact ih _ _ (by omega) (by rw [lC, if_pos c_674] at hres; exact hres) _ _ ls hP hD hS (lv_sub hl [4, 5, 6, 7, 8, 9, 2, 1, 0] rfl)
  exact l2 8 0 (nI bb) (Nat.le_refl 8) rfl _ _ ls hP hD hS (lv_sub hl [6, 7, 5, 8, 4, 3, 2, 1, 0] rfl)
