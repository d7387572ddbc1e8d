set_option maxHeartbeats 8000000 in
set_option maxRecDepth 100000 in
/-- the law from 1057 on -/
theorem law_end {p : Program} {e : Env} {s : State} {m : MethodId} {below : List Frame} {meth : Method} {c : Code} (l : Launch) {D : va_G} {cJ : ClassId} {b L : Nat} {xs : Nat → Int32} (hL : L ≤ 260) (C0 : lw_At p s m meth c b L xs) (CC : lawC l s D cJ) {v : Nat → Nat} {sa sq nu ns nn f : Nat → Int64} (hf : ∀ k, k < 60 → fAt 60 f (nI k) = -1) {mm r : Nat} (hm : mm ≤ 8) (hsa : ∀ j, j < mm → (sa j).toInt = tS L xs j) (hr8 : Least (co (tS L xs) mm) mm r) :
    ∀ (H : Heap) (locs : List Loc) (ls : Array Slot), va_P D vwCl (oW cJ v (nI mm) sa sq nu ns nn f) H → va_D (xA s) (oW cJ v (nI mm) sa sq nu ns nn f) → va_S (xA s) s.heap H locs → lv_has ls 24 [(0, .ref b), (1, .ref (v 0)), (2, .int 1), (3, .int (nI mm)), (5, .int (nI r))] → W p l e room_1 s m #[Value.ref b] below meth c H locs 200 1200 (lw_Z below #[Value.ref b] s) (F0 m 1057 ls []) := by
  obtain ⟨hx, hb, hr, hml, hown, hts, hX, hbl, hlocks, hgv⟩ := id C0
  obtain ⟨hstk, hK, hxI, hxN, hNc, hZone⟩ := id CC
  have htl : ∀ w ∈ wsL_law, w.before #[Value.ref b] s = true := fun w h => hts w (wsL_law_in w h)
  have hts : ∀ w ∈ wsL_law, w.before #[Value.ref b] s = true := htl
  have hA : ∀ q : Nat, s.heap.size ≤ q → xA s q := fun _ h => h
  have hbA : ¬ xA s b := Nat.not_le.mpr hbl
  intro H locs ls hP hD hS hl
  refine lv_iload_n hx hb dL_law_1057 rfl (lv_at hl 2 rfl) ?_
  refine lv_if_eq (tgt := 1088) hx hb dL_law_1058 (by decide) (fun c_1058 => absurd c_1058 (by decide)) (fun c_1058 => ?_)
  refine lv_aload_n hx hb dL_law_1061 rfl (lv_at hl 1 rfl) ?_
  obtain ⟨P1, P2, P3, P4, hP1⟩ : ∃ (Q1 Q2 Q3 Q4 : Nat → Int64), kRun sa mm 0 (fPut 4 (fFil sq 1000000 4) 0 0) (fFil nu 0 4) ns nn = (Q1, Q2, Q3, Q4) := ⟨_, _, _, _, pe4 _⟩
  refine wu_calli (As := []) (rest := []) (wr := [((v 12), .inr (0, [.ref (v 23), .ref (v 24), .int 0])), ((v 13), .inr (2, [.ref (v 14), .ref (v 17), .ref (v 25), .ref (v 26), .ref (v 27), .ref (v 28), .ref (v 20), .ref (v 29), .int 0, .int 0, .int 0, .int 0, .int 0])), ((v 14), .inr (5, [.ref (v 15), .ref (v 30)])), ((v 15), .inr (3, [.ref (v 16)])), ((v 16), .inl (cJ, 60, .inr (.inl f))), ((v 17), .inr (5, [.ref (v 18), .ref (v 31)])), ((v 18), .inr (3, [.ref (v 19)])), ((v 19), .inl (cJ, 60, .inr (.inl f))), ((v 20), .inr (3, [.ref (v 21)])), ((v 21), .inl (cJ, 60, .inr (.inl f)))]) (wn := oW cJ v 0 sa P1 P2 P3 P4 f) ⟨hx, hb, hml, hown, htl⟩ (c_X8_guess l D cJ (v 0) (v 12) (v 13) (v 22) (v 1) (v 2) (v 3) (v 4) (v 5) (v 6) (v 7) (v 8) (v 9) (v 10) (v 11) mm (by omega) sa sq nu ns nn P1 P2 P3 P4 hP1) (cwV 0 htl gL_law_X8_guess rfl rfl rfl (by decide +kernel) ⟨(Nat.le_of_ble_eq_true rfl), (Nat.le_of_ble_eq_true rfl)⟩) (va_recv hK hP (ci := 6) (q0 := 0) rfl rfl) rfl hl.1 (lv_room (Nat.le_of_ble_eq_true rfl)) dL_law_1062 ⟨(by show _ ≤ 604962; omega), (by show _ ≤ 7286739; omega)⟩ hS hA rfl hK hP hD [0, 1, 2, 3, 4, 5, 6, 7, 8, 9, 10, 11] [12, 13, 14, 15, 16, 17, 18, 19, 20, 21] [10, 11, 12, 13, 14, 15, 16, 17, 18, 19, 20, 21, 0, 1, 2, 3, 4, 5, 6, 7, 8, 9] rfl rfl (by decide) rfl (by decide) (by decide) rfl rfl (by decide) (fun H locs hP hD hS => ?_)
  have hP : va_P D vwCl (oW cJ v 0 sa P1 P2 P3 P4 f) H := hP
  have hD : va_D (xA s) (oW cJ v 0 sa P1 P2 P3 P4 f) := hD
  obtain ⟨r2, hr2, e2⟩ := guess_ok (sv_small L xs) (m := mm) (by omega) hsa sq nu ns nn P1 P2 P3 P4 hP1
  refine lv_topi (fun y ey => ?_)
  obtain rfl : y = nI r := ey.trans (e2.trans (congrArg nI (least_one hr2 hr8)))
  refine lv_iload hx hb dL_law_1065 (lv_at hl 4 rfl) ?_
  refine lv_icmp_ne (tgt := 1088) hx hb dL_law_1067 (by decide) (fun c_1067 => absurd c_1067 (fun h => h rfl)) (fun c_1067 => ?_)
  refine lv_aload_n hx hb dL_law_1070 rfl (lv_at hl 1 rfl) ?_
  obtain ⟨Q1, Q2, Q3, Q4, hQ1⟩ : ∃ (Q1 Q2 Q3 Q4 : Nat → Int64), kRun sa 0 0 (fPut 4 (fFil P1 1000000 4) 0 0) (fFil P2 0 4) P3 P4 = (Q1, Q2, Q3, Q4) := ⟨_, _, _, _, pe4 _⟩
  refine wu_calli (As := []) (rest := []) (wr := [((v 12), .inr (0, [.ref (v 23), .ref (v 24), .int 0])), ((v 13), .inr (2, [.ref (v 14), .ref (v 17), .ref (v 25), .ref (v 26), .ref (v 27), .ref (v 28), .ref (v 20), .ref (v 29), .int 0, .int 0, .int 0, .int 0, .int 0])), ((v 14), .inr (5, [.ref (v 15), .ref (v 30)])), ((v 15), .inr (3, [.ref (v 16)])), ((v 16), .inl (cJ, 60, .inr (.inl f))), ((v 17), .inr (5, [.ref (v 18), .ref (v 31)])), ((v 18), .inr (3, [.ref (v 19)])), ((v 19), .inl (cJ, 60, .inr (.inl f))), ((v 20), .inr (3, [.ref (v 21)])), ((v 21), .inl (cJ, 60, .inr (.inl f)))]) (wn := oW cJ v 0 sa Q1 Q2 Q3 Q4 f) ⟨hx, hb, hml, hown, htl⟩ (c_X8_guess l D cJ (v 0) (v 12) (v 13) (v 22) (v 1) (v 2) (v 3) (v 4) (v 5) (v 6) (v 7) (v 8) (v 9) (v 10) (v 11) 0 (by decide) sa P1 P2 P3 P4 Q1 Q2 Q3 Q4 hQ1) (cwV 0 htl gL_law_X8_guess rfl rfl rfl (by decide +kernel) ⟨(Nat.le_of_ble_eq_true rfl), (Nat.le_of_ble_eq_true rfl)⟩) (va_recv hK hP (ci := 6) (q0 := 0) rfl rfl) rfl hl.1 (lv_room (Nat.le_of_ble_eq_true rfl)) dL_law_1071 ⟨(by show _ ≤ 604962; omega), (by show _ ≤ 7286739; omega)⟩ hS hA rfl hK hP hD [0, 1, 2, 3, 4, 5, 6, 7, 8, 9, 10, 11] [12, 13, 14, 15, 16, 17, 18, 19, 20, 21] [10, 11, 12, 13, 14, 15, 16, 17, 18, 19, 20, 21, 0, 1, 2, 3, 4, 5, 6, 7, 8, 9] rfl rfl (by decide) rfl (by decide) (by decide) rfl rfl (by decide) (fun H locs hP hD hS => ?_)
  have hP : va_P D vwCl (oW cJ v 0 sa Q1 Q2 Q3 Q4 f) H := hP
  have hD : va_D (xA s) (oW cJ v 0 sa Q1 Q2 Q3 Q4 f) := hD
  obtain ⟨r0, hr0, e0⟩ := guess_ok (sv_small L xs) (m := 0) (by decide) (fun k h => absurd h (Nat.not_lt_zero _)) P1 P2 P3 P4 Q1 Q2 Q3 Q4 hQ1
  obtain rfl : r0 = 0 := by have := hr0.1; omega
  refine lv_topi (fun y ey => ?_)
  obtain rfl : y = 0 := ey.trans (e0)
  refine lv_if_ne (tgt := 1088) hx hb dL_law_1074 (by decide) (fun c_1074 => absurd c_1074 (by decide)) (fun c_1074 => ?_)
  refine lv_aload_n hx hb dL_law_1077 rfl (lv_at hl 1 rfl) ?_
  refine ruK_calli (As := []) (rest := []) ⟨hx, hb, hml, hown, htl⟩ (c_X8_isSound l D cJ (v 0) (v 1) (v 12) (v 13) (v 22) (v 23) (v 24) (v 14) (v 17) (v 25) (v 26) (v 27) (v 28) (v 20) (v 29) (v 15) (v 30) (v 16) (v 18) (v 31) (v 19) (v 21) f hf) (fun U g mk a h => nkZone_same rfl h) (fun U hW => nkZone_warm hW hZone) (cwV 0 htl gL_law_X8_isSound rfl rfl rfl (by decide +kernel) ⟨(Nat.le_of_ble_eq_true rfl), (Nat.le_of_ble_eq_true rfl)⟩) (va_recv hK hP (ci := 6) (q0 := 0) rfl rfl) rfl hl.1 (lv_room (Nat.le_of_ble_eq_true rfl)) dL_law_1078 ⟨(by show _ ≤ 604962; omega), (by show _ ≤ 7286739; omega)⟩ hS hA rfl hK (hP.sub [0, 12, 13, 14, 15, 16, 17, 18, 19, 20, 21] rfl) (fun locs hS => ?_)
  refine lv_if_eq (tgt := 1088) hx hb dL_law_1081 (by decide) (fun c_1081 => absurd c_1081 (by decide)) (fun c_1081 => ?_)
  refine lv_iconst (v := 1) hx hb dL_law_1084 (by decide) ?_
  refine lv_goto (tgt := 1089) hx hb dL_law_1085 (by decide) ?_
  refine va_forget (fun q hq => hS.2.2 q hq) ?_
  refine W.widen (k := 604962) (n := 7286739) (by omega) (by omega) ?_
  exact lw_ret hx hb hr hlocks dL_law_1089
set_option maxHeartbeats 8000000 in
set_option maxRecDepth 100000 in
/-- the law from 906 on: every row of cells, from the greatest on -/
theorem law_search {p : Program} {e : Env} {s : State} {m : MethodId} {below : List Frame} {meth : Method} {c : Code} (l : Launch) {D : va_G} {cJ : ClassId} {b L : Nat} {xs : Nat → Int32} (hL : L ≤ 260) (C0 : lw_At p s m meth c b L xs) (CC : lawC l s D cJ) {v : Nat → Nat} {sa sq nu ns nn f : Nat → Int64} (hf : ∀ k, k < 60 → fAt 60 f (nI k) = -1) {g : Nat → Int32} {cI : ClassId} {ar mm : Nat} (hm : mm ≤ 8) (hK2 : va_K D vwCl [(cJ, .long), (cI, .int)] s) (hsa : ∀ j, j < mm → (sa j).toInt = tS L xs j) (hg : ∀ j, j < mm → g j = sv L xs j) :
    ∀ (H : Heap) (locs : List Loc) (ls : Array Slot), va_P D vwCl (oW cJ v (nI mm) sa sq nu ns nn f ++ [(ar, .inl (cI, mm, .inl g))]) H → va_D (xA s) (oW cJ v (nI mm) sa sq nu ns nn f ++ [(ar, .inl (cI, mm, .inl g))]) → va_S (xA s) s.heap H locs → lv_has ls 24 [(0, .ref b), (1, .ref (v 0)), (2, .int 1), (3, .int (nI mm)), (4, .ref ar)] → W p l e room_1 s m #[Value.ref b] below meth c H locs 200 1200 (lw_Z below #[Value.ref b] s) (F0 m 906 ls []) := by
  obtain ⟨hx, hb, hr, hml, hown, hts, hX, hbl, hlocks, hgv⟩ := id C0
  obtain ⟨hstk, hK, hxI, hxN, hNc, hZone⟩ := id CC
  have htl : ∀ w ∈ wsL_law, w.before #[Value.ref b] s = true := fun w h => hts w (wsL_law_in w h)
  have hts : ∀ w ∈ wsL_law, w.before #[Value.ref b] s = true := htl
  have hA : ∀ q : Nat, s.heap.size ≤ q → xA s q := fun _ h => h
  have hbA : ¬ xA s b := Nat.not_le.mpr hbl
  have h256 : 2 ^ mm ≤ 256 := Nat.le_trans (Nat.pow_le_pow_right (by decide) hm) (by decide)
  intro H locs ls hP hD hS hl
  have l4 : ∀ (rr : Nat) (best least : Int32), rr ≤ 2 ^ mm → LI (tS L xs) mm rr best least → ∀ ls : Array Slot, lv_has ls 24 [(0, .ref b), (1, .ref (v 0)), (2, .int 1), (3, .int (nI mm)), (4, .ref ar), (5, .int best), (6, .int least), (7, .int (nI rr + (-1)))] → W p l e room_1 s m #[Value.ref b] below meth c H locs 200 1200 (lw_Z below #[Value.ref b] s) (F0 m 920 ls []) := by
    intro rr
    induction rr with
    | zero =>
      intro best least hle hLI ls hl
      obtain ⟨r, hr8, er⟩ := LI_end hLI
      rw [er] at hl
      refine lv_iload hx hb dL_law_920 (lv_at hl 7 rfl) ?_
      refine lv_if_lt (tgt := 1057) hx hb dL_law_922 (by decide) (fun c_922 => ?_) (fun c_922 => absurd c_922 (fun h => h (by decide)))
      exact law_end l hL C0 CC hf hm hsa hr8 _ _ ls (hP.sub [0, 1, 2, 3, 4, 5, 6, 7, 8, 9, 10, 11, 12, 13, 14, 15, 16, 17, 18, 19, 20, 21] rfl) (hD.sub [0, 1, 2, 3, 4, 5, 6, 7, 8, 9, 10, 11, 12, 13, 14, 15, 16, 17, 18, 19, 20, 21] (by decide) rfl) hS (lv_sub hl [0, 1, 2, 3, 5] rfl)
    | succ rr ih4 =>
      intro best least hle hLI ls hl
      rw [pk_m1 rr] at hl
      have hr : rr < 2 ^ mm := hle
      have hr31 : rr < 2 ^ 31 := by omega
      have l5 : ∀ n k : Nat, k + n = mm → ∀ ls : Array Slot, lv_has ls 24 [(0, .ref b), (1, .ref (v 0)), (2, .int 1), (3, .int (nI mm)), (4, .ref ar), (5, .int best), (6, .int least), (7, .int (nI rr)), (8, .int (nI (co (tS L xs) k (rr / 2 ^ (mm - k))))), (9, .int (nI k))] → W p l e room_1 s m #[Value.ref b] below meth c H locs 200 1200 (lw_Z below #[Value.ref b] s) (F0 m 931 ls []) := by
        intro n
        induction n with
        | zero =>
          intro k hk ls hl
          obtain rfl : k = mm := hk
          rw [show rr / 2 ^ (k - k) = rr by rw [Nat.sub_self, Nat.pow_zero, Nat.div_one]] at hl
          refine lv_iload hx hb dL_law_931 (lv_at hl 9 rfl) ?_
          refine lv_iload_n hx hb dL_law_933 rfl (lv_at hl 3 rfl) ?_
          refine lv_icmp_ge (tgt := 1019) hx hb dL_law_934 (by decide) (fun c_934 => ?_) (fun c_934 => absurd c_934 (fun h => h (Int32.le_refl _)))
          refine lv_iload hx hb dL_law_1019 (lv_at hl 8 rfl) ?_
          refine lv_iload hx hb dL_law_1021 (lv_at hl 6 rfl) ?_
          refine lv_icmp_gt (tgt := 1031) hx hb dL_law_1023 (by decide) (fun c_1023 => ?_) (fun c_1023 => ?_)
          · refine lv_iload hx hb dL_law_1031 (lv_at hl 5 rfl) ?_
            refine lv_istore (lv' := [(5, .int best), (0, .ref b), (1, .ref (v 0)), (2, .int 1), (3, .int (nI k)), (4, .ref ar), (6, .int least), (7, .int (nI rr)), (8, .int (nI (co (tS L xs) k rr))), (9, .int (nI k))]) hx hb dL_law_1033 hl (by decide) rfl (fun ls hl => ?_)
            refine lv_iload hx hb dL_law_1035 (lv_at hl 8 rfl) ?_
            refine lv_iload hx hb dL_law_1037 (lv_at hl 6 rfl) ?_
            refine lv_icmp_gt (tgt := 1047) hx hb dL_law_1039 (by decide) (fun c_1039 => ?_) (fun c_1039 => ?_)
            · refine lv_iload hx hb dL_law_1047 (lv_at hl 6 rfl) ?_
              refine lv_istore (lv' := [(6, .int least), (5, .int best), (0, .ref b), (1, .ref (v 0)), (2, .int 1), (3, .int (nI k)), (4, .ref ar), (7, .int (nI rr)), (8, .int (nI (co (tS L xs) k rr))), (9, .int (nI k))]) hx hb dL_law_1049 hl (by decide) rfl (fun ls hl => ?_)
              refine lv_iinc (v := (nI rr) + (-1)) (lv' := [(7, .int ((nI rr) + (-1))), (6, .int least), (5, .int best), (0, .ref b), (1, .ref (v 0)), (2, .int 1), (3, .int (nI k)), (4, .ref ar), (8, .int (nI (co (tS L xs) k rr))), (9, .int (nI k))]) hx hb dL_law_1051 hl (k := 7) rfl rfl (by decide) rfl (fun ls hl => ?_)
              refine lv_goto (tgt := 920) hx hb dL_law_1054 (by decide) ?_
              exact ih4 _ _ (by omega) (LI_gt (sv_small L xs) hm hLI c_1023) ls (lv_sub hl [3, 4, 5, 6, 7, 2, 1, 0] rfl)
            · refine lv_iload hx hb dL_law_1042 (lv_at hl 8 rfl) ?_
              refine lv_goto (tgt := 1049) hx hb dL_law_1044 (by decide) ?_
              refine lv_istore (lv' := [(6, .int (nI (co (tS L xs) k rr))), (5, .int best), (0, .ref b), (1, .ref (v 0)), (2, .int 1), (3, .int (nI k)), (4, .ref ar), (7, .int (nI rr)), (8, .int (nI (co (tS L xs) k rr))), (9, .int (nI k))]) hx hb dL_law_1049 hl (by decide) rfl (fun ls hl => ?_)
              refine lv_iinc (v := (nI rr) + (-1)) (lv' := [(7, .int ((nI rr) + (-1))), (6, .int (nI (co (tS L xs) k rr))), (5, .int best), (0, .ref b), (1, .ref (v 0)), (2, .int 1), (3, .int (nI k)), (4, .ref ar), (8, .int (nI (co (tS L xs) k rr))), (9, .int (nI k))]) hx hb dL_law_1051 hl (k := 7) rfl rfl (by decide) rfl (fun ls hl => ?_)
              refine lv_goto (tgt := 920) hx hb dL_law_1054 (by decide) ?_
              exact absurd c_1023 c_1039
          · refine lv_iload hx hb dL_law_1026 (lv_at hl 7 rfl) ?_
            refine lv_goto (tgt := 1033) hx hb dL_law_1028 (by decide) ?_
            refine lv_istore (lv' := [(5, .int (nI rr)), (0, .ref b), (1, .ref (v 0)), (2, .int 1), (3, .int (nI k)), (4, .ref ar), (6, .int least), (7, .int (nI rr)), (8, .int (nI (co (tS L xs) k rr))), (9, .int (nI k))]) hx hb dL_law_1033 hl (by decide) rfl (fun ls hl => ?_)
            refine lv_iload hx hb dL_law_1035 (lv_at hl 8 rfl) ?_
            refine lv_iload hx hb dL_law_1037 (lv_at hl 6 rfl) ?_
            refine lv_icmp_gt (tgt := 1047) hx hb dL_law_1039 (by decide) (fun c_1039 => ?_) (fun c_1039 => ?_)
            · refine lv_iload hx hb dL_law_1047 (lv_at hl 6 rfl) ?_
              refine lv_istore (lv' := [(6, .int least), (5, .int (nI rr)), (0, .ref b), (1, .ref (v 0)), (2, .int 1), (3, .int (nI k)), (4, .ref ar), (7, .int (nI rr)), (8, .int (nI (co (tS L xs) k rr))), (9, .int (nI k))]) hx hb dL_law_1049 hl (by decide) rfl (fun ls hl => ?_)
              refine lv_iinc (v := (nI rr) + (-1)) (lv' := [(7, .int ((nI rr) + (-1))), (6, .int least), (5, .int (nI rr)), (0, .ref b), (1, .ref (v 0)), (2, .int 1), (3, .int (nI k)), (4, .ref ar), (8, .int (nI (co (tS L xs) k rr))), (9, .int (nI k))]) hx hb dL_law_1051 hl (k := 7) rfl rfl (by decide) rfl (fun ls hl => ?_)
              refine lv_goto (tgt := 920) hx hb dL_law_1054 (by decide) ?_
              exact absurd c_1039 c_1023
            · refine lv_iload hx hb dL_law_1042 (lv_at hl 8 rfl) ?_
              refine lv_goto (tgt := 1049) hx hb dL_law_1044 (by decide) ?_
              refine lv_istore (lv' := [(6, .int (nI (co (tS L xs) k rr))), (5, .int (nI rr)), (0, .ref b), (1, .ref (v 0)), (2, .int 1), (3, .int (nI k)), (4, .ref ar), (7, .int (nI rr)), (8, .int (nI (co (tS L xs) k rr))), (9, .int (nI k))]) hx hb dL_law_1049 hl (by decide) rfl (fun ls hl => ?_)
              refine lv_iinc (v := (nI rr) + (-1)) (lv' := [(7, .int ((nI rr) + (-1))), (6, .int (nI (co (tS L xs) k rr))), (5, .int (nI rr)), (0, .ref b), (1, .ref (v 0)), (2, .int 1), (3, .int (nI k)), (4, .ref ar), (8, .int (nI (co (tS L xs) k rr))), (9, .int (nI k))]) hx hb dL_law_1051 hl (k := 7) rfl rfl (by decide) rfl (fun ls hl => ?_)
              refine lv_goto (tgt := 920) hx hb dL_law_1054 (by decide) ?_
              exact ih4 _ _ (by omega) (LI_le (sv_small L xs) hm hr hLI c_1023) ls (lv_sub hl [3, 4, 5, 6, 7, 2, 1, 0] rfl)
        | succ n ih5 =>
          intro k hk ls hl
          have hkm : k < mm := by omega
          refine lv_iload hx hb dL_law_931 (lv_at hl 9 rfl) ?_
          refine lv_iload_n hx hb dL_law_933 rfl (lv_at hl 3 rfl) ?_
          refine lv_icmp_ge (tgt := 1019) hx hb dL_law_934 (by decide) (fun c_934 => absurd c_934 (nI_ge (a := k) (b := mm) (by omega) (by omega))) (fun c_934 => ?_)
          refine lv_iload hx hb dL_law_937 (lv_at hl 7 rfl) ?_
          refine lv_iload_n hx hb dL_law_939 rfl (lv_at hl 3 rfl) ?_
          refine lv_iconst (v := 1) hx hb dL_law_940 (by decide) ?_
          refine lv_isub hx hb dL_law_941 ?_
          refine lv_iload hx hb dL_law_942 (lv_at hl 9 rfl) ?_
          refine lv_isub hx hb dL_law_944 ?_
          refine lv_topi (fun y ey => ?_)
          obtain rfl : y = nI (mm - 1 - k) := ey.trans (row_sub hkm)
          refine lv_ishr hx hb dL_law_945 ?_
          refine lv_iconst (v := 1) hx hb dL_law_946 (by decide) ?_
          refine lv_iand hx hb dL_law_947 ?_
          refine lv_topi (fun y ey => ?_)
          obtain rfl : y = nI (rr / 2 ^ (mm - 1 - k) % 2) := ey.trans (cell32 hr31 (by omega))
          refine lv_istore (lv' := [(10, .int (nI (rr / 2 ^ (mm - 1 - k) % 2))), (0, .ref b), (1, .ref (v 0)), (2, .int 1), (3, .int (nI mm)), (4, .ref ar), (5, .int best), (6, .int least), (7, .int (nI rr)), (8, .int (nI (co (tS L xs) k (rr / 2 ^ (mm - k))))), (9, .int (nI k))]) hx hb dL_law_948 hl (by decide) rfl (fun ls hl => ?_)
          refine lv_iload hx hb dL_law_950 (lv_at hl 10 rfl) ?_
          refine lv_iconst (v := 2) hx hb dL_law_952 (by decide) ?_
          refine lv_icmp_ge (tgt := 960) hx hb dL_law_953 (by decide) (fun c_953 => ?_) (fun c_953 => ?_)
          · refine lv_iload hx hb dL_law_960 (lv_at hl 8 rfl) ?_
            refine lv_iload_n hx hb dL_law_962 rfl (lv_at hl 4 rfl) ?_
            refine lv_iconst (v := 1) hx hb dL_law_963 (by decide) ?_
            refine lv_iadd hx hb dL_law_964 ?_
            refine lv_iload hx hb dL_law_965 (lv_at hl 10 rfl) ?_
            refine lv_isub hx hb dL_law_967 ?_
            refine lv_topi (fun y ey => ?_)
            obtain rfl : y = nI (mm + 1 - k) := ey.trans (row_sub2 hkm)
            refine lv_ishr hx hb dL_law_968 ?_
            refine lv_iconst (v := 1) hx hb dL_law_969 (by decide) ?_
            refine lv_iand hx hb dL_law_970 ?_
            have h2k : ¬ k < 2 := Nat.not_lt.mpr ((nI_leI (a := 2) (by omega) (by omega)).mp c_953)
            refine lv_topi (fun y ey => ?_)
            obtain rfl : y = nI (rr / 2 ^ (mm + 1 - k) % 2) := ey.trans (cell32 hr31 (by omega))
            refine lv_istore (lv' := [(11, .int (nI (rr / 2 ^ (mm + 1 - k) % 2))), (10, .int (nI (rr / 2 ^ (mm - 1 - k) % 2))), (0, .ref b), (1, .ref (v 0)), (2, .int 1), (3, .int (nI mm)), (4, .ref ar), (5, .int best), (6, .int least), (7, .int (nI rr)), (8, .int (nI (co (tS L xs) k (rr / 2 ^ (mm - k))))), (9, .int (nI k))]) hx hb dL_law_971 hl (by decide) rfl (fun ls hl => ?_)
            refine lv_iload hx hb dL_law_973 (lv_at hl 10 rfl) ?_
            refine lv_aload hx hb dL_law_975 (lv_at hl 6 rfl) ?_
            refine lv_iload hx hb dL_law_977 (lv_at hl 11 rfl) ?_
            refine va_iald (cA := cI) (n := mm) (f := g) hx hb hK2 hP 22 1 rfl rfl (vp_in_nI hkm (by omega)) dL_law_979 ?_
            refine lv_topi (fun y ey => ?_)
            obtain rfl : y = sv L xs k := ey.trans (by rw [nI_clamp (by omega)]; exact hg k hkm)
            refine lv_bipush (v := 10) hx hb dL_law_980 (by decide) ?_
            refine lv_iload hx hb dL_law_982 (lv_at hl 1 rfl) ?_
            refine lv_imul hx hb dL_law_984 ?_
            refine lv_isub hx hb dL_law_985 ?_
            refine lv_bipush (v := 10) hx hb dL_law_986 (by decide) ?_
            refine lv_iload hx hb dL_law_988 (lv_at hl 0 rfl) ?_
            refine lv_imul hx hb dL_law_990 ?_
            refine lv_iadd hx hb dL_law_991 ?_
            refine lv_aload hx hb dL_law_992 (lv_at hl 6 rfl) ?_
            refine lv_iload hx hb dL_law_994 (lv_at hl 11 rfl) ?_
            refine va_iald (cA := cI) (n := mm) (f := g) hx hb hK2 hP 22 1 rfl rfl (vp_in_nI hkm (by omega)) dL_law_996 ?_
            refine lv_topi (fun y ey => ?_)
            obtain rfl : y = sv L xs k := ey.trans (by rw [nI_clamp (by omega)]; exact hg k hkm)
            refine lv_bipush (v := 10) hx hb dL_law_997 (by decide) ?_
            refine lv_iload hx hb dL_law_999 (lv_at hl 1 rfl) ?_
            refine lv_imul hx hb dL_law_1001 ?_
            refine lv_isub hx hb dL_law_1002 ?_
            refine lv_bipush (v := 10) hx hb dL_law_1003 (by decide) ?_
            refine lv_iload hx hb dL_law_1005 (lv_at hl 0 rfl) ?_
            refine lv_imul hx hb dL_law_1007 ?_
            refine lv_iadd hx hb dL_law_1008 ?_
            refine lv_imul hx hb dL_law_1009 ?_
            refine lv_topi (fun y ey => ?_)
            obtain rfl : y = nI (o2 (tS L xs k) (rr / 2 ^ (mm - 1 - k) % 2) (rr / 2 ^ (mm + 1 - k) % 2)) := ey.trans (o32 rfl (sv_small L xs k).1 (sv_small L xs k).2 (c := rr / 2 ^ (mm - 1 - k) % 2) (d := rr / 2 ^ (mm + 1 - k) % 2) (by omega) (by omega))
            refine lv_iadd hx hb dL_law_1010 ?_
            refine lv_topi (fun y ey => ?_)
            obtain rfl : y = nI (co (tS L xs) (k + 1) (rr / 2 ^ (mm - (k + 1)))) := ey.trans (by rw [co_row (tS L xs) hkm hr, if_neg h2k]; exact nI_add _ _)
            refine lv_istore (lv' := [(8, .int (nI (co (tS L xs) (k + 1) (rr / 2 ^ (mm - (k + 1)))))), (11, .int (nI (rr / 2 ^ (mm + 1 - k) % 2))), (10, .int (nI (rr / 2 ^ (mm - 1 - k) % 2))), (0, .ref b), (1, .ref (v 0)), (2, .int 1), (3, .int (nI mm)), (4, .ref ar), (5, .int best), (6, .int least), (7, .int (nI rr)), (9, .int (nI k))]) hx hb dL_law_1011 hl (by decide) rfl (fun ls hl => ?_)
            refine lv_iinc (v := nI (k + 1)) (lv' := [(9, .int (nI (k + 1))), (8, .int (nI (co (tS L xs) (k + 1) (rr / 2 ^ (mm - (k + 1)))))), (11, .int (nI (rr / 2 ^ (mm + 1 - k) % 2))), (10, .int (nI (rr / 2 ^ (mm - 1 - k) % 2))), (0, .ref b), (1, .ref (v 0)), (2, .int 1), (3, .int (nI mm)), (4, .ref ar), (5, .int best), (6, .int least), (7, .int (nI rr))]) hx hb dL_law_1013 hl (k := 11) rfl (nI_1 _) (by decide) rfl (fun ls hl => ?_)
            refine lv_goto (tgt := 931) hx hb dL_law_1016 (by decide) ?_
            exact ih5 (k + 1) (by omega) ls (lv_sub hl [4, 5, 6, 7, 8, 9, 10, 11, 1, 0] rfl)
          · refine lv_iconst (v := 0) hx hb dL_law_956 (by decide) ?_
            refine lv_goto (tgt := 971) hx hb dL_law_957 (by decide) ?_
            have h2k : k < 2 := Nat.not_le.mp (fun h => c_953 (nI_le (b := k) h (by omega)))
            refine lv_topi (fun y ey => ?_)
            obtain rfl : y = nI 0 := ey.trans (rfl)
            refine lv_istore (lv' := [(11, .int (nI 0)), (10, .int (nI (rr / 2 ^ (mm - 1 - k) % 2))), (0, .ref b), (1, .ref (v 0)), (2, .int 1), (3, .int (nI mm)), (4, .ref ar), (5, .int best), (6, .int least), (7, .int (nI rr)), (8, .int (nI (co (tS L xs) k (rr / 2 ^ (mm - k))))), (9, .int (nI k))]) hx hb dL_law_971 hl (by decide) rfl (fun ls hl => ?_)
            refine lv_iload hx hb dL_law_973 (lv_at hl 10 rfl) ?_
            refine lv_aload hx hb dL_law_975 (lv_at hl 6 rfl) ?_
            refine lv_iload hx hb dL_law_977 (lv_at hl 11 rfl) ?_
            refine va_iald (cA := cI) (n := mm) (f := g) hx hb hK2 hP 22 1 rfl rfl (vp_in_nI hkm (by omega)) dL_law_979 ?_
            refine lv_topi (fun y ey => ?_)
            obtain rfl : y = sv L xs k := ey.trans (by rw [nI_clamp (by omega)]; exact hg k hkm)
            refine lv_bipush (v := 10) hx hb dL_law_980 (by decide) ?_
            refine lv_iload hx hb dL_law_982 (lv_at hl 1 rfl) ?_
            refine lv_imul hx hb dL_law_984 ?_
            refine lv_isub hx hb dL_law_985 ?_
            refine lv_bipush (v := 10) hx hb dL_law_986 (by decide) ?_
            refine lv_iload hx hb dL_law_988 (lv_at hl 0 rfl) ?_
            refine lv_imul hx hb dL_law_990 ?_
            refine lv_iadd hx hb dL_law_991 ?_
            refine lv_aload hx hb dL_law_992 (lv_at hl 6 rfl) ?_
            refine lv_iload hx hb dL_law_994 (lv_at hl 11 rfl) ?_
            refine va_iald (cA := cI) (n := mm) (f := g) hx hb hK2 hP 22 1 rfl rfl (vp_in_nI hkm (by omega)) dL_law_996 ?_
            refine lv_topi (fun y ey => ?_)
            obtain rfl : y = sv L xs k := ey.trans (by rw [nI_clamp (by omega)]; exact hg k hkm)
            refine lv_bipush (v := 10) hx hb dL_law_997 (by decide) ?_
            refine lv_iload hx hb dL_law_999 (lv_at hl 1 rfl) ?_
            refine lv_imul hx hb dL_law_1001 ?_
            refine lv_isub hx hb dL_law_1002 ?_
            refine lv_bipush (v := 10) hx hb dL_law_1003 (by decide) ?_
            refine lv_iload hx hb dL_law_1005 (lv_at hl 0 rfl) ?_
            refine lv_imul hx hb dL_law_1007 ?_
            refine lv_iadd hx hb dL_law_1008 ?_
            refine lv_imul hx hb dL_law_1009 ?_
            refine lv_topi (fun y ey => ?_)
            obtain rfl : y = nI (o2 (tS L xs k) (rr / 2 ^ (mm - 1 - k) % 2) (0)) := ey.trans (o32 rfl (sv_small L xs k).1 (sv_small L xs k).2 (c := rr / 2 ^ (mm - 1 - k) % 2) (d := 0) (by omega) (by omega))
            refine lv_iadd hx hb dL_law_1010 ?_
            refine lv_topi (fun y ey => ?_)
            obtain rfl : y = nI (co (tS L xs) (k + 1) (rr / 2 ^ (mm - (k + 1)))) := ey.trans (by rw [co_row (tS L xs) hkm hr, if_pos h2k]; exact nI_add _ _)
            refine lv_istore (lv' := [(8, .int (nI (co (tS L xs) (k + 1) (rr / 2 ^ (mm - (k + 1)))))), (11, .int (nI 0)), (10, .int (nI (rr / 2 ^ (mm - 1 - k) % 2))), (0, .ref b), (1, .ref (v 0)), (2, .int 1), (3, .int (nI mm)), (4, .ref ar), (5, .int best), (6, .int least), (7, .int (nI rr)), (9, .int (nI k))]) hx hb dL_law_1011 hl (by decide) rfl (fun ls hl => ?_)
            refine lv_iinc (v := nI (k + 1)) (lv' := [(9, .int (nI (k + 1))), (8, .int (nI (co (tS L xs) (k + 1) (rr / 2 ^ (mm - (k + 1)))))), (11, .int (nI 0)), (10, .int (nI (rr / 2 ^ (mm - 1 - k) % 2))), (0, .ref b), (1, .ref (v 0)), (2, .int 1), (3, .int (nI mm)), (4, .ref ar), (5, .int best), (6, .int least), (7, .int (nI rr))]) hx hb dL_law_1013 hl (k := 11) rfl (nI_1 _) (by decide) rfl (fun ls hl => ?_)
            refine lv_goto (tgt := 931) hx hb dL_law_1016 (by decide) ?_
            exact ih5 (k + 1) (by omega) ls (lv_sub hl [4, 5, 6, 7, 8, 9, 10, 11, 1, 0] rfl)
      refine lv_iload hx hb dL_law_920 (lv_at hl 7 rfl) ?_
      refine lv_if_lt (tgt := 1057) hx hb dL_law_922 (by decide) (fun c_922 => absurd c_922 (nI_pos (n := rr) hr31)) (fun c_922 => ?_)
      refine lv_iconst (v := 0) hx hb dL_law_925 (by decide) ?_
      refine lv_topi (fun y ey => ?_)
      obtain rfl : y = nI (co (tS L xs) 0 (rr / 2 ^ (mm - 0))) := ey.trans (rfl)
      refine lv_istore (lv' := [(8, .int (nI (co (tS L xs) 0 (rr / 2 ^ (mm - 0))))), (0, .ref b), (1, .ref (v 0)), (2, .int 1), (3, .int (nI mm)), (4, .ref ar), (5, .int best), (6, .int least), (7, .int (nI rr))]) hx hb dL_law_926 hl (by decide) rfl (fun ls hl => ?_)
      refine lv_iconst (v := 0) hx hb dL_law_928 (by decide) ?_
      refine lv_topi (fun y ey => ?_)
      obtain rfl : y = nI 0 := ey.trans (rfl)
      refine lv_istore (lv' := [(9, .int (nI 0)), (8, .int (nI (co (tS L xs) 0 (rr / 2 ^ (mm - 0))))), (0, .ref b), (1, .ref (v 0)), (2, .int 1), (3, .int (nI mm)), (4, .ref ar), (5, .int best), (6, .int least), (7, .int (nI rr))]) hx hb dL_law_929 hl (by decide) rfl (fun ls hl => ?_)
      exact l5 mm 0 (Nat.zero_add mm) ls (lv_sub hl [2, 3, 4, 5, 6, 7, 8, 9, 1, 0] rfl)
  refine lv_iconst (v := 0) hx hb dL_law_906 (by decide) ?_
  refine lv_istore (lv' := [(5, .int 0), (0, .ref b), (1, .ref (v 0)), (2, .int 1), (3, .int (nI mm)), (4, .ref ar)]) hx hb dL_law_907 hl (by decide) rfl (fun ls hl => ?_)
  refine lv_ldc (v := 2147483647) hx hb hown (hts (.constant RL 49 2147483647) (by decide +kernel)) dL_law_909 ?_
  refine lv_istore (lv' := [(6, .int 2147483647), (5, .int 0), (0, .ref b), (1, .ref (v 0)), (2, .int 1), (3, .int (nI mm)), (4, .ref ar)]) hx hb dL_law_911 hl (by decide) rfl (fun ls hl => ?_)
  refine lv_iconst (v := 1) hx hb dL_law_913 (by decide) ?_
  refine lv_iload_n hx hb dL_law_914 rfl (lv_at hl 5 rfl) ?_
  refine lv_ishl hx hb dL_law_915 ?_
  refine lv_iconst (v := 1) hx hb dL_law_916 (by decide) ?_
  refine lv_isub hx hb dL_law_917 ?_
  refine lv_topi (fun y ey => ?_)
  obtain rfl : y = nI (2 ^ mm) + (-1) := ey.trans (row_all hm)
  refine lv_istore (lv' := [(7, .int (nI (2 ^ mm) + (-1))), (6, .int 2147483647), (5, .int 0), (0, .ref b), (1, .ref (v 0)), (2, .int 1), (3, .int (nI mm)), (4, .ref ar)]) hx hb dL_law_918 hl (by decide) rfl (fun ls hl => ?_)
  exact l4 (2 ^ mm) 0 2147483647 (Nat.le_refl _) (Or.inl ⟨rfl, rfl, rfl⟩) ls (lv_sub hl [3, 4, 5, 6, 7, 2, 1, 0] rfl)
set_option maxHeartbeats 8000000 in
set_option maxRecDepth 100000 in
/-- the samples -/
theorem law_samples {p : Program} {e : Env} {s : State} {m : MethodId} {below : List Frame} {meth : Method} {c : Code} (l : Launch) {D : va_G} {cJ : ClassId} {b L : Nat} {xs : Nat → Int32} (hL : L ≤ 260) (C0 : lw_At p s m meth c b L xs) (CC : lawC l s D cJ) {v : Nat → Nat} {sq nu ns nn f : Nat → Int64} (hf : ∀ k, k < 60 → fAt 60 f (nI k) = -1) {cI : ClassId} {ar mm : Nat} (hm : mm ≤ 8) (hK2 : va_K D vwCl [(cJ, .long), (cI, .int)] s) :
    ∀ (n k : Nat), k + n = mm → ∀ (sa : Nat → Int64) (g : Nat → Int32), (∀ j, j < k → (sa j).toInt = tS L xs j) → (∀ j, j < k → g j = sv L xs j) → ∀ (H : Heap) (locs : List Loc) (ls : Array Slot), va_P D vwCl (oW cJ v (nI k) sa sq nu ns nn f ++ [(ar, .inl (cI, mm, .inl g))]) H → va_D (xA s) (oW cJ v (nI k) sa sq nu ns nn f ++ [(ar, .inl (cI, mm, .inl g))]) → va_S (xA s) s.heap H locs → lv_has ls 24 [(0, .ref b), (1, .ref (v 0)), (2, .int 1), (3, .int (nI mm)), (4, .ref ar), (5, .int (nI k))] → W p l e room_1 s m #[Value.ref b] below meth c H locs 200 1200 (lw_Z below #[Value.ref b] s) (F0 m 851 ls []) := by
  obtain ⟨hx, hb, hr, hml, hown, hts, hX, hbl, hlocks, hgv⟩ := id C0
  obtain ⟨hstk, hK, hxI, hxN, hNc, hZone⟩ := id CC
  have htl : ∀ w ∈ wsL_law, w.before #[Value.ref b] s = true := fun w h => hts w (wsL_law_in w h)
  have hts : ∀ w ∈ wsL_law, w.before #[Value.ref b] s = true := htl
  have hA : ∀ q : Nat, s.heap.size ≤ q → xA s q := fun _ h => h
  have hbA : ¬ xA s b := Nat.not_le.mpr hbl
  intro n
  induction n with
  | zero =>
    intro k hk sa g hsa hg H locs ls hP hD hS hl
    obtain rfl : k = mm := hk
    refine lv_iload hx hb dL_law_851 (lv_at hl 5 rfl) ?_
    refine lv_iload_n hx hb dL_law_853 rfl (lv_at hl 3 rfl) ?_
    refine lv_icmp_ge (tgt := 906) hx hb dL_law_854 (by decide) (fun c_854 => ?_) (fun c_854 => absurd c_854 (fun h => h (Int32.le_refl _)))
    exact law_search l hL C0 CC hf hm hK2 hsa hg _ _ ls hP hD hS (lv_sub hl [0, 1, 2, 3, 4] rfl)
  | succ n ih =>
    intro k hk sa g hsa hg H locs ls hP hD hS hl
    have hkm : k < mm := by omega
    have hk12 : k < 12 := by omega
    refine lv_iload hx hb dL_law_851 (lv_at hl 5 rfl) ?_
    refine lv_iload_n hx hb dL_law_853 rfl (lv_at hl 3 rfl) ?_
    refine lv_icmp_ge (tgt := 906) hx hb dL_law_854 (by decide) (fun c_854 => absurd c_854 (nI_ge (a := k) (b := mm) (by omega) (by omega))) (fun c_854 => ?_)
    refine lv_aload hx hb dL_law_857 (lv_at hl 4 rfl) ?_
    refine lv_iload hx hb dL_law_859 (lv_at hl 5 rfl) ?_
    refine lv_aload_n hx hb dL_law_861 rfl (lv_at hl 0 rfl) ?_
    refine lv_bipush (v := 120) hx hb dL_law_862 (by decide) ?_
    refine lv_iload hx hb dL_law_864 (lv_at hl 5 rfl) ?_
    refine lv_iadd hx hb dL_law_866 ?_
    refine lv_topi (fun y ey => ?_)
    obtain rfl : y = nI (120 + k) := ey.trans (nI_add 120 k)
    refine lv_bipush (v := 81) hx hb dL_law_867 (by decide) ?_
    refine sc_calli (As := [.ref b, .int (nI (120 + k)), .int 81]) (rest := [.int (nI k), .ref ar]) ⟨hx, hb, hml, hown, htl⟩ (c_L_in l b L (120 + k) hL (by omega) xs 81 (by decide)) (va_cwS 3 htl gL_law_L_in rfl rfl rfl (by decide +kernel) ⟨(Nat.le_of_ble_eq_true rfl), (Nat.le_of_ble_eq_true rfl)⟩) rfl hl.1 (lv_room (Nat.le_of_ble_eq_true rfl)) dL_law_869 ⟨(by show _ ≤ 604962; omega), (by show _ ≤ 7286739; omega)⟩ hS hA rfl (hX.kept (hS.2.1 b hbl hbA)) (Nat.lt_of_lt_of_le hbl hS.1) (fun locs hS => ?_)
    refine lv_bipush (v := 40) hx hb dL_law_872 (by decide) ?_
    refine lv_isub hx hb dL_law_874 ?_
    refine lv_topi (fun y ey => ?_)
    obtain rfl : y = sv L xs k := ey.trans (rfl)
    refine va_iast (cA := cI) (n := mm) (f := g) hx hb hK2 hP hD hS 22 1 rfl rfl (vp_in_nI hkm (by omega)) dL_law_875 (fun H locs hP hD hS => ?_)
    rw [nI_clamp (show k < 2 ^ 31 by omega)] at hP hD
    have hP : va_P D vwCl (oW cJ v (nI k) sa sq nu ns nn f ++ [(ar, .inl (cI, mm, .inl (upd g k (sv L xs k))))]) H := hP
    have hD : va_D (xA s) (oW cJ v (nI k) sa sq nu ns nn f ++ [(ar, .inl (cI, mm, .inl (upd g k (sv L xs k))))]) := hD
    refine lv_iload_n hx hb dL_law_876 rfl (lv_at hl 2 rfl) ?_
    refine lv_aload_n hx hb dL_law_877 rfl (lv_at hl 1 rfl) ?_
    refine lv_aload hx hb dL_law_878 (lv_at hl 4 rfl) ?_
    refine lv_iload hx hb dL_law_880 (lv_at hl 5 rfl) ?_
    refine va_iald (cA := cI) (n := mm) (f := upd g k (sv L xs k)) hx hb hK2 hP 22 1 rfl rfl (vp_in_nI hkm (by omega)) dL_law_882 ?_
    refine lv_topi (fun y ey => ?_)
    obtain rfl : y = sv L xs k := ey.trans (by rw [nI_clamp (show k < 2 ^ 31 by omega)]; exact if_pos rfl)
    refine wu_calliSW (As := [.ref (v 0), .int (sv L xs k)]) (rest := [.int 1]) (wr := [((v 4), .inr (3, [.ref (v 5)])), ((v 5), .inl (cJ, 4, .inr (.inl sq))), ((v 6), .inr (3, [.ref (v 7)])), ((v 7), .inl (cJ, 4, .inr (.inl nu))), ((v 8), .inr (3, [.ref (v 9)])), ((v 9), .inl (cJ, 4, .inr (.inl ns))), ((v 10), .inr (3, [.ref (v 11)])), ((v 11), .inl (cJ, 4, .inr (.inl nn))), ((v 12), .inr (0, [.ref (v 23), .ref (v 24), .int 0])), ((v 13), .inr (2, [.ref (v 14), .ref (v 17), .ref (v 25), .ref (v 26), .ref (v 27), .ref (v 28), .ref (v 20), .ref (v 29), .int 0, .int 0, .int 0, .int 0, .int 0])), ((v 14), .inr (5, [.ref (v 15), .ref (v 30)])), ((v 15), .inr (3, [.ref (v 16)])), ((v 16), .inl (cJ, 60, .inr (.inl f))), ((v 17), .inr (5, [.ref (v 18), .ref (v 31)])), ((v 18), .inr (3, [.ref (v 19)])), ((v 19), .inl (cJ, 60, .inr (.inl f))), ((v 20), .inr (3, [.ref (v 21)])), ((v 21), .inl (cJ, 60, .inr (.inl f))), (ar, .inl (cI, mm, .inl (upd g k (sv L xs k))))]) (wn := oW cJ v (nI k + 1) (fPut 12 sa (nI k) (sv L xs k).toInt64) sq nu ns nn f ++ [(ar, .inl (cI, mm, .inl (upd g k (sv L xs k))))]) ⟨hx, hb, hml, hown, htl⟩ (c_L_sample l D cJ (v 0) (v 12) (v 13) (v 22) (v 1) (v 2) (v 3) (v 4) (v 6) (v 8) (v 10) k hk12 sa (sv L xs k) (sv_lo L xs k) (sv_hi L xs k)) (vx_cwSW 2 htl gL_law_L_sample rfl rfl rfl (by decide +kernel) ⟨(Nat.le_of_ble_eq_true rfl), (Nat.le_of_ble_eq_true rfl)⟩) rfl hl.1 (lv_room (Nat.le_of_ble_eq_true rfl)) dL_law_883 ⟨(by show _ ≤ 604962; omega), (by show _ ≤ 7286739; omega)⟩ hS hA rfl hK hP hD [0, 1, 2, 3] [4, 5, 6, 7, 8, 9, 10, 11, 12, 13, 14, 15, 16, 17, 18, 19, 20, 21, 22] [19, 20, 21, 22, 0, 1, 2, 3, 4, 5, 6, 7, 8, 9, 10, 11, 12, 13, 14, 15, 16, 17, 18] rfl rfl (by decide) rfl (by decide) (by decide) rfl rfl (by decide) (fun H locs hP hD hS => ?_)
    have hP : va_P D vwCl (oW cJ v (nI k + 1) (fPut 12 sa (nI k) (sv L xs k).toInt64) sq nu ns nn f ++ [(ar, .inl (cI, mm, .inl (upd g k (sv L xs k))))]) H := hP
    have hD : va_D (xA s) (oW cJ v (nI k + 1) (fPut 12 sa (nI k) (sv L xs k).toInt64) sq nu ns nn f ++ [(ar, .inl (cI, mm, .inl (upd g k (sv L xs k))))]) := hD
    rw [fPut_in (n := 12) sa _ hk12 (by decide), nI_1 k] at hP hD
    refine lv_iload hx hb dL_law_886 (lv_at hl 5 rfl) ?_
    refine lv_iconst (v := 1) hx hb dL_law_888 (by decide) ?_
    refine lv_iadd hx hb dL_law_889 ?_
    refine lv_icmp_ne (tgt := 897) hx hb dL_law_890 (by decide) (fun c_890 => absurd c_890 (fun h => h rfl)) (fun c_890 => ?_)
    refine lv_iconst (v := 1) hx hb dL_law_893 (by decide) ?_
    refine lv_goto (tgt := 898) hx hb dL_law_894 (by decide) ?_
    refine lv_iand hx hb dL_law_898 ?_
    refine lv_istore_n (lv' := [(2, .int 1), (0, .ref b), (1, .ref (v 0)), (3, .int (nI mm)), (4, .ref ar), (5, .int (nI k))]) hx hb dL_law_899 rfl hl (by decide) rfl (fun ls hl => ?_)
    refine lv_iinc (v := nI (k + 1)) (lv' := [(5, .int (nI (k + 1))), (2, .int 1), (0, .ref b), (1, .ref (v 0)), (3, .int (nI mm)), (4, .ref ar)]) hx hb dL_law_900 hl (k := 5) rfl (nI_1 _) (by decide) rfl (fun ls hl => ?_)
    refine lv_goto (tgt := 851) hx hb dL_law_903 (by decide) ?_
    refine ih (k + 1) (by omega) _ _ (fun j hj => ?_) (fun j hj => ?_) _ _ ls hP hD hS (lv_sub hl [2, 3, 1, 4, 5, 0] rfl)
    · show (if j = k then (sv L xs k).toInt64 else sa j).toInt = _
      by_cases h : j = k
      · rw [if_pos h, h, Int32.toInt_toInt64]
      · rw [if_neg h]; exact hsa j (by omega)
    · show (if j = k then sv L xs k else g j) = _
      by_cases h : j = k
      · rw [if_pos h, h]
      · rw [if_neg h]; exact hg j (by omega)
set_option maxHeartbeats 8000000 in
set_option maxRecDepth 100000 in
/-- the law from 772 on -/
theorem law_back {p : Program} {e : Env} {s : State} {m : MethodId} {below : List Frame} {meth : Method} {c : Code} (l : Launch) {D : va_G} {cJ : ClassId} {b L : Nat} {xs : Nat → Int32} (hL : L ≤ 260) (C0 : lw_At p s m meth c b L xs) (CC : lawC l s D cJ) {v : Nat → Nat} {sa sq nu ns nn f : Nat → Int64} (hf : ∀ k, k < 60 → fAt 60 f (nI k) = -1) :
    ∀ (H : Heap) (locs : List Loc) (ls : Array Slot), va_P D vwCl (oW cJ v 0 sa sq nu ns nn f) H → va_D (xA s) (oW cJ v 0 sa sq nu ns nn f) → va_S (xA s) s.heap H locs → lv_has ls 24 [(0, .ref b), (1, .ref (v 0)), (2, .int 1), (3, .int (nI 6))] → W p l e room_1 s m #[Value.ref b] below meth c H locs 120 1060 (lw_Z below #[Value.ref b] s) (F0 m 772 ls []) := by
  obtain ⟨hx, hb, hr, hml, hown, hts, hX, hbl, hlocks, hgv⟩ := id C0
  obtain ⟨hstk, hK, hxI, hxN, hNc, hZone⟩ := id CC
  have htl : ∀ w ∈ wsL_law, w.before #[Value.ref b] s = true := fun w h => hts w (wsL_law_in w h)
  have hts : ∀ w ∈ wsL_law, w.before #[Value.ref b] s = true := htl
  have hA : ∀ q : Nat, s.heap.size ≤ q → xA s q := fun _ h => h
  have hbA : ¬ xA s b := Nat.not_le.mpr hbl
  intro H locs ls hP hD hS hl
  refine lv_iload_n hx hb dL_law_772 rfl (lv_at hl 2 rfl) ?_
  refine lv_aload_n hx hb dL_law_773 rfl (lv_at hl 1 rfl) ?_
  refine lv_sipush (v := 256) hx hb dL_law_774 (by decide) ?_
  refine lv_iconst (v := 0) hx hb dL_law_777 (by decide) ?_
  refine lx_calli (As := [.ref (v 0), .int 256, .int 0]) (rest := [.int 1]) ⟨hx, hb, hml, hown, htl⟩ (x_L_encode_1 l hstk (v 0) 256 0 (by decide)) (vx_cwSW 3 htl gL_law_L_encode rfl rfl rfl (by decide +kernel) ⟨(Nat.le_of_ble_eq_true rfl), (Nat.le_of_ble_eq_true rfl)⟩) (va_recv hK hP (ci := 6) (q0 := 0) rfl rfl) rfl hl.1 (lv_room (Nat.le_of_ble_eq_true rfl)) dL_law_778 ⟨(by show _ ≤ 604962; omega), (by show _ ≤ 7286739; omega)⟩ hS rfl hxI hNc (fun H1 locs hkeep hS => ?_)
  have hP := hP.kept (fun k q hk => hkeep q.1 ((hP k q hk).lt))
  refine lv_ldc (v := (-900001)) hx hb hown (hts (.constant RL 23 (-900001)) (by decide +kernel)) dL_law_781 ?_
  refine lv_icmp_ne (tgt := 831) hx hb dL_law_783 (by decide) (fun c_783 => absurd c_783 (by decide)) (fun c_783 => ?_)
  refine lv_aload_n hx hb dL_law_786 rfl (lv_at hl 1 rfl) ?_
  refine lv_iconst (v := 0) hx hb dL_law_787 (by decide) ?_
  refine lv_iconst (v := 2) hx hb dL_law_788 (by decide) ?_
  refine lx_calli (As := [.ref (v 0), .int 0, .int 2]) (rest := [.int 1]) ⟨hx, hb, hml, hown, htl⟩ (x_L_encode_2 l hstk (v 0) 0 2 (by decide) (by decide) (by decide)) (vx_cwSW 3 htl gL_law_L_encode rfl rfl rfl (by decide +kernel) ⟨(Nat.le_of_ble_eq_true rfl), (Nat.le_of_ble_eq_true rfl)⟩) (va_recv hK hP (ci := 6) (q0 := 0) rfl rfl) rfl hl.1 (lv_room (Nat.le_of_ble_eq_true rfl)) dL_law_789 ⟨(by show _ ≤ 604962; omega), (by show _ ≤ 7286739; omega)⟩ hS rfl hxI hNc (fun H1 locs hkeep hS => ?_)
  have hP := hP.kept (fun k q hk => hkeep q.1 ((hP k q hk).lt))
  refine lv_ldc (v := (-900001)) hx hb hown (hts (.constant RL 23 (-900001)) (by decide +kernel)) dL_law_792 ?_
  refine lv_icmp_ne (tgt := 831) hx hb dL_law_794 (by decide) (fun c_794 => absurd c_794 (by decide)) (fun c_794 => ?_)
  refine lv_aload_n hx hb dL_law_797 rfl (lv_at hl 1 rfl) ?_
  refine lv_ldc (v := 65536) hx hb hown (hts (.constant RL 59 65536) (by decide +kernel)) dL_law_798 ?_
  refine lv_iconst (v := 0) hx hb dL_law_800 (by decide) ?_
  refine lx_calli (As := [.ref (v 0), .int 65536, .int 0]) (rest := [.int 1]) ⟨hx, hb, hml, hown, htl⟩ (x_L_decode_1 l hstk (v 0) 65536 0 (by decide)) (vx_cwSW 3 htl gL_law_L_decode rfl rfl rfl (by decide +kernel) ⟨(Nat.le_of_ble_eq_true rfl), (Nat.le_of_ble_eq_true rfl)⟩) (va_recv hK hP (ci := 6) (q0 := 0) rfl rfl) rfl hl.1 (lv_room (Nat.le_of_ble_eq_true rfl)) dL_law_801 ⟨(by show _ ≤ 604962; omega), (by show _ ≤ 7286739; omega)⟩ hS rfl hxI hNc (fun H1 locs hkeep hS => ?_)
  have hP := hP.kept (fun k q hk => hkeep q.1 ((hP k q hk).lt))
  refine lv_ldc (v := (-900001)) hx hb hown (hts (.constant RL 23 (-900001)) (by decide +kernel)) dL_law_804 ?_
  refine lv_icmp_ne (tgt := 831) hx hb dL_law_806 (by decide) (fun c_806 => absurd c_806 (by decide)) (fun c_806 => ?_)
  refine lv_aload_n hx hb dL_law_809 rfl (lv_at hl 1 rfl) ?_
  obtain ⟨Q1, Q2, Q3, Q4, hQ1⟩ : ∃ (Q1 Q2 Q3 Q4 : Nat → Int64), kRun sa 0 0 (fPut 4 (fFil sq 1000000 4) 0 0) (fFil nu 0 4) ns nn = (Q1, Q2, Q3, Q4) := ⟨_, _, _, _, pe4 _⟩
  refine wu_calli (As := []) (rest := [.int 1]) (wr := [((v 12), .inr (0, [.ref (v 23), .ref (v 24), .int 0])), ((v 13), .inr (2, [.ref (v 14), .ref (v 17), .ref (v 25), .ref (v 26), .ref (v 27), .ref (v 28), .ref (v 20), .ref (v 29), .int 0, .int 0, .int 0, .int 0, .int 0])), ((v 14), .inr (5, [.ref (v 15), .ref (v 30)])), ((v 15), .inr (3, [.ref (v 16)])), ((v 16), .inl (cJ, 60, .inr (.inl f))), ((v 17), .inr (5, [.ref (v 18), .ref (v 31)])), ((v 18), .inr (3, [.ref (v 19)])), ((v 19), .inl (cJ, 60, .inr (.inl f))), ((v 20), .inr (3, [.ref (v 21)])), ((v 21), .inl (cJ, 60, .inr (.inl f)))]) (wn := oW cJ v 0 sa Q1 Q2 Q3 Q4 f) ⟨hx, hb, hml, hown, htl⟩ (c_X8_guess l D cJ (v 0) (v 12) (v 13) (v 22) (v 1) (v 2) (v 3) (v 4) (v 5) (v 6) (v 7) (v 8) (v 9) (v 10) (v 11) 0 (by decide) sa sq nu ns nn Q1 Q2 Q3 Q4 hQ1) (cwV 0 htl gL_law_X8_guess rfl rfl rfl (by decide +kernel) ⟨(Nat.le_of_ble_eq_true rfl), (Nat.le_of_ble_eq_true rfl)⟩) (va_recv hK hP (ci := 6) (q0 := 0) rfl rfl) rfl hl.1 (lv_room (Nat.le_of_ble_eq_true rfl)) dL_law_810 ⟨(by show _ ≤ 604962; omega), (by show _ ≤ 7286739; omega)⟩ hS hA rfl hK hP hD [0, 1, 2, 3, 4, 5, 6, 7, 8, 9, 10, 11] [12, 13, 14, 15, 16, 17, 18, 19, 20, 21] [10, 11, 12, 13, 14, 15, 16, 17, 18, 19, 20, 21, 0, 1, 2, 3, 4, 5, 6, 7, 8, 9] rfl rfl (by decide) rfl (by decide) (by decide) rfl rfl (by decide) (fun H locs hP hD hS => ?_)
  have hP : va_P D vwCl (oW cJ v 0 sa Q1 Q2 Q3 Q4 f) H := hP
  have hD : va_D (xA s) (oW cJ v 0 sa Q1 Q2 Q3 Q4 f) := hD
  obtain ⟨r0, hr0, e0⟩ := guess_ok (sv_small L xs) (m := 0) (by decide) (fun k h => absurd h (Nat.not_lt_zero _)) sq nu ns nn Q1 Q2 Q3 Q4 hQ1
  obtain rfl : r0 = 0 := by have := hr0.1; omega
  refine lv_topi (fun y ey => ?_)
  obtain rfl : y = 0 := ey.trans (e0)
  refine lv_if_ne (tgt := 831) hx hb dL_law_813 (by decide) (fun c_813 => absurd c_813 (by decide)) (fun c_813 => ?_)
  refine lv_aload_n hx hb dL_law_816 rfl (lv_at hl 1 rfl) ?_
  refine lv_bipush (v := 41) hx hb dL_law_817 (by decide) ?_
  refine lx_calli (As := [.ref (v 0), .int 41]) (rest := [.int 1]) ⟨hx, hb, hml, hown, htl⟩ (x_L_sample l hstk (v 0) 41 (by decide)) (vx_cwSW 2 htl gL_law_L_sample rfl rfl rfl (by decide +kernel) ⟨(Nat.le_of_ble_eq_true rfl), (Nat.le_of_ble_eq_true rfl)⟩) (va_recv hK hP (ci := 6) (q0 := 0) rfl rfl) rfl hl.1 (lv_room (Nat.le_of_ble_eq_true rfl)) dL_law_819 ⟨(by show _ ≤ 604962; omega), (by show _ ≤ 7286739; omega)⟩ hS rfl hxI hNc (fun H1 locs hkeep hS => ?_)
  have hP := hP.kept (fun k q hk => hkeep q.1 ((hP k q hk).lt))
  refine lv_ldc (v := (-900001)) hx hb hown (hts (.constant RL 23 (-900001)) (by decide +kernel)) dL_law_822 ?_
  refine lv_icmp_ne (tgt := 831) hx hb dL_law_824 (by decide) (fun c_824 => absurd c_824 (by decide)) (fun c_824 => ?_)
  refine lv_iconst (v := 1) hx hb dL_law_827 (by decide) ?_
  refine lv_goto (tgt := 832) hx hb dL_law_828 (by decide) ?_
  refine lv_iand hx hb dL_law_832 ?_
  refine lv_istore_n (lv' := [(2, .int 1), (0, .ref b), (1, .ref (v 0)), (3, .int (nI 6))]) hx hb dL_law_833 rfl hl (by decide) rfl (fun ls hl => ?_)
  refine lv_aload_n hx hb dL_law_834 rfl (lv_at hl 1 rfl) ?_
  refine lv_bipush (v := 110) hx hb dL_law_835 (by decide) ?_
  refine lv_topi (fun y ey => ?_)
  obtain rfl : y = nI 110 := ey.trans (rfl)
  refine lv_bipush (v := 9) hx hb dL_law_837 (by decide) ?_
  refine sc_calli (As := [.ref b, .int (nI 110), .int 9]) (rest := []) ⟨hx, hb, hml, hown, htl⟩ (c_L_in l b L 110 hL (by omega) xs 9 (by decide)) (va_cwS 3 htl gL_law_L_in rfl rfl rfl (by decide +kernel) ⟨(Nat.le_of_ble_eq_true rfl), (Nat.le_of_ble_eq_true rfl)⟩) rfl hl.1 (lv_room (Nat.le_of_ble_eq_true rfl)) dL_law_839 ⟨(by show _ ≤ 604962; omega), (by show _ ≤ 7286739; omega)⟩ hS hA rfl (hX.kept (hS.2.1 b hbl hbA)) (Nat.lt_of_lt_of_le hbl hS.1) (fun locs hS => ?_)
  obtain ⟨mm, hm9, em⟩ := gIn_lt L xs 110 (N := 9) (by decide) (by decide)
  refine lv_topi (fun y ey => ?_)
  obtain rfl : y = nI mm := ey.trans (em)
  refine lv_istore_n (lv' := [(3, .int (nI mm)), (2, .int 1), (0, .ref b), (1, .ref (v 0))]) hx hb dL_law_842 rfl hl (by decide) rfl (fun ls hl => ?_)
  refine lv_iload_n hx hb dL_law_843 rfl (lv_at hl 0 rfl) ?_
  refine va_newa (atype := .int) (ty := .int) hx hb (hts (.arrayClass .int) (by decide +kernel)) rfl hK hP hD hS hA (N' := mm) (a0 := (mm, .inl (fun _ => 0))) (fun cA => rfl) (nI_pos (by omega)) (nI_clamp (by omega)) (by show mm * 4 ≤ _; omega) (by show _ ≤ 604962; omega) (by show _ ≤ 7286739; omega) dL_law_844 (fun ar cI H hK2 hP hD hS => ?_)
  refine W.widen (k := 200) (n := 1200) (by omega) (by omega) ?_
  refine lv_astore (lv' := [(4, .ref ar), (3, .int (nI mm)), (2, .int 1), (0, .ref b), (1, .ref (v 0))]) hx hb dL_law_846 hl (by decide) rfl (fun ls hl => ?_)
  refine lv_iconst (v := 0) hx hb dL_law_848 (by decide) ?_
  refine lv_istore (lv' := [(5, .int 0), (4, .ref ar), (3, .int (nI mm)), (2, .int 1), (0, .ref b), (1, .ref (v 0))]) hx hb dL_law_849 hl (by decide) rfl (fun ls hl => ?_)
  exact law_samples l hL C0 CC hf (by omega) hK2 mm 0 (Nat.zero_add mm) _ _ (fun j h => absurd h (Nat.not_lt_zero _)) (fun j h => absurd h (Nat.not_lt_zero _)) _ _ ls hP hD hS (lv_sub hl [4, 5, 3, 2, 1, 0] rfl)
