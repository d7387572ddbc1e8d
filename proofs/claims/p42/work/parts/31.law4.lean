set_option maxHeartbeats 8000000 in
set_option maxRecDepth 100000 in
theorem whole_start {p : Program} {e : Env} {s : State} {m : MethodId} {below : List Frame} {meth : Method} {c : Code} (l : Launch) (hflags : l.flags = flags0) {b L : Nat} {xs : Nat → Int32} (hL : L ≤ 260) (C0 : lw_At p s m meth c b L xs) : W p l e room_1 s m #[Value.ref b] below meth c s.heap [] 0 0 (lw_Z below #[Value.ref b] s) (entryFrame m ([Value.ref b] : List Value).toArray 24) := by
  obtain ⟨hx, hb, hr, hml, hown, hts0, hX, hbl, hlocks, hgv⟩ := id C0
  have htl : ∀ w ∈ wsL_law, w.before #[Value.ref b] s = true := fun w h => hts0 w (wsL_law_in w h)
  have hts : ∀ w ∈ wsL_law, w.before #[Value.ref b] s = true := htl
  have hA : ∀ q : Nat, s.heap.size ≤ q → xA s q := fun _ h => h
  have hbA : ¬ xA s b := Nat.not_le.mpr hbl
  have hstk : l.stackTraces = false := by show (!l.flags.contains Jvm.noTraceFlag) = false; rw [hflags]; decide +kernel
  obtain ⟨c0, i0, k0⟩ := u_known (C := RX0) (T := TX0) (N := 3) (n := 3) hts0 inX0 (hts (.instantiable RX0 3) (by decide +kernel))
  obtain ⟨c1, i1, k1⟩ := u_known (C := RX2) (T := TX2) (N := 6) (n := 6) hts0 inX2 (hts (.instantiable RX2 6) (by decide +kernel))
  obtain ⟨c2, i2, k2⟩ := u_known (C := RX3) (T := TX3) (N := 13) (n := 13) hts0 inX3 (hts (.instantiable RX3 13) (by decide +kernel))
  obtain ⟨c3, i3, k3⟩ := u_known (C := RX4) (T := TX4) (N := 1) (n := 1) hts0 inX4 (hts (.instantiable RX4 1) (by decide +kernel))
  obtain ⟨c4, i4, k4⟩ := u_known (C := RX5) (T := TX5) (N := 7) (n := 7) hts0 inX5 (hts (.instantiable RX5 7) (by decide +kernel))
  obtain ⟨c5, i5, k5⟩ := u_known (C := RX6) (T := TX6) (N := 2) (n := 2) hts0 inX6 (hts (.instantiable RX6 2) (by decide +kernel))
  obtain ⟨c6, i6, k6⟩ := u_known (C := RX8) (T := TX8) (N := 8) (n := 8) hts0 inX8 (hts (.instantiable RX8 8) (by decide +kernel))
  obtain ⟨D, hKc⟩ : ∃ D : va_G, ∀ (k : Nat) (q : vw_C), vwCl[k]? = some q → u_Kn s q.1 q.2.1 q.2.2 (D.1 k) (D.2 k) := by
    refine ⟨(fun k => if k = 0 then c0 else if k = 1 then c1 else if k = 2 then c2 else if k = 3 then c3 else if k = 4 then c4 else if k = 5 then c5 else c6, fun k => if k = 0 then i0 else if k = 1 then i1 else if k = 2 then i2 else if k = 3 then i3 else if k = 4 then i4 else if k = 5 then i5 else i6), ?_⟩
    intro k q hq
    match k, hq with
    | 0, hq => cases hq; exact k0
    | 1, hq => cases hq; exact k1
    | 2, hq => cases hq; exact k2
    | 3, hq => cases hq; exact k3
    | 4, hq => cases hq; exact k4
    | 5, hq => cases hq; exact k5
    | 6, hq => cases hq; exact k6
    | k + 7, hq => simp [vwCl] at hq
  obtain ⟨cJ, kA, comp, g1, g2, g3⟩ := Cond.arrayClass_spec (hts (.arrayClass .long) (by decide +kernel))
  have hK : va_K D vwCl [(cJ, .long)] s := ⟨hKc, fun k q h => by
    match k, h with
    | 0, h => cases h; exact ⟨fun n z => ⟨fun k h => (by cases h), kA, g2, comp, g3⟩, g1⟩
    | k + 1, h => simp at h⟩
  have flat := flat_of_before _ hgv
  have hxI : xK "java/lang/IllegalArgumentException" s := ⟨⟨va_Nw.of rfl (hts0 (.declares (Bundle.init0 "java/lang/RuntimeException")) (by decide +kernel)), va_Nw.of rfl (hts0 (.declares (Bundle.init0 "java/lang/Exception")) (by decide +kernel)), va_Nw.of rfl (hts0 (.declares (Bundle.init0 Bundle.tN)) (by decide +kernel)), va_Nw.of rfl (hts0 (.castable "java/lang/IllegalArgumentException" "java/lang/IllegalArgumentException") (by decide +kernel))⟩, vx_Zqof (hts0 (.laysStatic Bundle.tN "UNASSIGNED_STACK" Bundle.steD) (by decide +kernel)) (hts0 (.initialized Bundle.tN) (by decide +kernel)) (flat (.isRef (.static Bundle.tN "UNASSIGNED_STACK" Bundle.steD)) (by decide +kernel)) (fun a h => Nat.not_le.mpr h), vx_Zqof (hts0 (.laysStatic Bundle.tN "SUPPRESSED_SENTINEL" Bundle.listD) (by decide +kernel)) (hts0 (.initialized Bundle.tN) (by decide +kernel)) (flat (.isRef (.static Bundle.tN "SUPPRESSED_SENTINEL" Bundle.listD)) (by decide +kernel)) (fun a h => Nat.not_le.mpr h)⟩
  have hxN : xK "java/util/NoSuchElementException" s := ⟨⟨va_Nw.of rfl (hts0 (.declares (Bundle.init0 "java/lang/RuntimeException")) (by decide +kernel)), va_Nw.of rfl (hts0 (.declares (Bundle.init0 "java/lang/Exception")) (by decide +kernel)), va_Nw.of rfl (hts0 (.declares (Bundle.init0 Bundle.tN)) (by decide +kernel)), va_Nw.of rfl (hts0 (.castable "java/util/NoSuchElementException" "java/util/NoSuchElementException") (by decide +kernel))⟩, vx_Zqof (hts0 (.laysStatic Bundle.tN "UNASSIGNED_STACK" Bundle.steD) (by decide +kernel)) (hts0 (.initialized Bundle.tN) (by decide +kernel)) (flat (.isRef (.static Bundle.tN "UNASSIGNED_STACK" Bundle.steD)) (by decide +kernel)) (fun a h => Nat.not_le.mpr h), vx_Zqof (hts0 (.laysStatic Bundle.tN "SUPPRESSED_SENTINEL" Bundle.listD) (by decide +kernel)) (hts0 (.initialized Bundle.tN) (by decide +kernel)) (flat (.isRef (.static Bundle.tN "SUPPRESSED_SENTINEL" Bundle.listD)) (by decide +kernel)) (fun a h => Nat.not_le.mpr h)⟩
  have hNc : xNc s := va_Nc.of (flat (.not (.castable "java/util/NoSuchElementException" "java/lang/IllegalArgumentException")) (by decide +kernel))
  have hZone : nkZone s := va_Nw.of rfl (hts0 (.fieldLinkNest RX8 151 "Shingletrack$Platter" "zone" "LShingletrack$Store;" "Shingletrack") (by decide +kernel))
  have hN : nkPre s := ⟨va_Nw.of rfl (hts0 (.methodLinkNest RX8 11 yX2_init "Shingletrack") (by decide +kernel)), va_Nw.of rfl (hts0 (.methodLinkNest RX8 18 yX0_init "Shingletrack") (by decide +kernel)), va_Nw.of rfl (hts0 (.methodLinkNest RX8 32 yX5_init "Shingletrack") (by decide +kernel))⟩
  have CC : lawC l s D cJ := ⟨hstk, hK, hxI, hxN, hNc, hZone⟩
  have hS : va_S (xA s) s.heap s.heap [] := va_S.rf
  have hP : va_P D vwCl [] s.heap := fun k q h => by simp at h
  have hD : va_D (xA s) [] := ⟨fun i j p q h => by simp at h, fun k q h => by simp at h⟩
  have hl := lv_entry ([.ref b]) (n := 24) (Nat.le_of_ble_eq_true rfl)
  rw [lg_entry_eq]
  generalize (lg_sl ([.ref b]) ++ List.replicate (24 - (lg_sl ([.ref b])).length) Slot.unset).toArray = ls at hl ⊢
  have hl : lv_has ls 24 [(0, .ref b)] := hl
  refine va_new (ci := 6) (fs := [.null, .null, .null, .null, .int 0, .int 0, .int 0, .int 0]) (C := RX8) (T := TX8) (N := 8) hx hb hts0 inX8 tyX8 tyX8_ok hown (hts (.classLink RL 10 RX8) (by decide +kernel)) (hts (.instantiable RX8 8) (by decide +kernel)) (hts (.initialized RX8) (by decide +kernel)) hK hP hD hS hA rfl (fun j hj => by rcases (show j = 0 ∨ j = 1 ∨ j = 2 ∨ j = 3 ∨ j = 4 ∨ j = 5 ∨ j = 6 ∨ j = 7 by omega) with rfl | rfl | rfl | rfl | rfl | rfl | rfl | rfl <;> rfl) (Nat.le_of_ble_eq_true rfl) (Nat.le_of_ble_eq_true rfl) dL_law_0 (fun q0 H hP hD hS => ?_)
  have hP : va_P D vwCl [(q0, .inr (6, [.null, .null, .null, .null, .int 0, .int 0, .int 0, .int 0]))] H := hP
  have hD : va_D (xA s) [(q0, .inr (6, [.null, .null, .null, .null, .int 0, .int 0, .int 0, .int 0]))] := hD
  refine lv_dup hx hb dL_law_3 rfl ?_
  refine nuK_callv (As := []) (rest := [.ref q0]) (wr := []) ⟨hx, hb, hml, hown, htl⟩ (c_X8_init l D cJ q0) (fun U g mk a h => nk_same rfl h) (fun U hW => nk_warm hW hN) (cwI 0 htl gL_law_X8_init rfl rfl rfl (hts (.initialized RX8) (by decide +kernel)) (hts (.methodLink RL 58 yX8_init) (by decide +kernel)) (hts (.instanceMethod yX8_init) (by decide +kernel)) rfl (by decide +kernel) ⟨(Nat.le_of_ble_eq_true rfl), (Nat.le_of_ble_eq_true rfl)⟩) rfl hl.1 (lv_room (Nat.le_of_ble_eq_true rfl)) dL_law_4 ⟨(Nat.le_of_ble_eq_true rfl), (Nat.le_of_ble_eq_true rfl)⟩ hS hA rfl hK hP hD [0] [] rfl rfl (by decide) rfl (by decide) (by decide) (fun u H locs hw hP hD hS => ?_)
  obtain ⟨v1, v2, v3, v4, v5, v6, v7, v8, v9, v10, v11, v12, v13, v14, v15, v16, v17, v18, v19, v20, v21, v22, v23, v24, v25, v26, v27, v28, v29, v30, v31, rfl⟩ := hw
  obtain ⟨v, hv0, hP2, hD2⟩ : ∃ v : Nat → Nat, v 0 = q0 ∧ va_P D vwCl (oW cJ v 0 (fun _ => 0) (fun _ => 0) (fun _ => 0) (fun _ => 0) (fun _ => 0) (fFil (fun _ => 0) (-1) 60)) H ∧ va_D (xA s) (oW cJ v 0 (fun _ => 0) (fun _ => 0) (fun _ => 0) (fun _ => 0) (fun _ => 0) (fFil (fun _ => 0) (-1) 60)) := ⟨fun k => [q0, v1, v2, v3, v4, v5, v6, v7, v8, v9, v10, v11, v12, v13, v14, v15, v16, v17, v18, v19, v20, v21, v22, v23, v24, v25, v26, v27, v28, v29, v30, v31].getD k 0, rfl, hP, hD⟩
  subst hv0
  have hP := hP2
  have hD := hD2
  have hf : ∀ k, k < 60 → fAt 60 (fFil (fun _ => 0) (-1) 60) (nI k) = -1 := fun k hk => (fAt_in _ hk (by decide)).trans (if_pos hk)
  refine W.widen (k := 45) (n := 659) (by omega) (by omega) ?_
  refine lv_astore_n (lv' := [(1, .ref (v 0)), (0, .ref b)]) hx hb dL_law_7 rfl hl (by decide) rfl (fun ls hl => ?_)
  refine lv_aload_n hx hb dL_law_8 rfl (lv_at hl 0 rfl) ?_
  refine lv_ldc (v := 65536) hx hb hown (hts (.constant RL 59 65536) (by decide +kernel)) dL_law_9 ?_
  refine lx_calll (As := [.ref (v 0), .int 65536]) (rest := []) ⟨hx, hb, hml, hown, htl⟩ (x_L_word l hstk (v 0) 65536 (by decide)) (vx_cwSW 2 htl gL_law_L_word rfl rfl rfl (by decide +kernel) ⟨(Nat.le_of_ble_eq_true rfl), (Nat.le_of_ble_eq_true rfl)⟩) (va_recv hK hP (ci := 6) (q0 := 0) rfl rfl) rfl hl.1 (lv_room (Nat.le_of_ble_eq_true rfl)) dL_law_11 ⟨(by show _ ≤ 604962; omega), (by show _ ≤ 7286739; omega)⟩ hS rfl hxI hNc (fun H1 locs hkeep hS => ?_)
  have hP := hP.kept (fun k q hk => hkeep q.1 ((hP k q hk).lt))
  refine lv_ldc2 (v := (-900001)) hx hb hown (hts (.constantLong RL 17 (-900001)) (by decide +kernel)) dL_law_14 ?_
  refine W.lcmp hx hb dL_law_17 ?_
  refine lv_if_ne (tgt := 70) hx hb dL_law_18 (by decide) (fun c_18 => absurd c_18 (fun h => h ((lg_cmp_eq _ _).mpr rfl))) (fun c_18 => ?_)
  refine lv_aload_n hx hb dL_law_21 rfl (lv_at hl 0 rfl) ?_
  refine lv_iconst (v := 0) hx hb dL_law_22 (by decide) ?_
  refine lo_calll (As := [.ref (v 0), .int 0]) (rest := []) ⟨hx, hb, hml, hown, htl⟩ (c_L_word l (v 0) 0 (by decide) (by decide)) (vx_cwSW 2 htl gL_law_L_word rfl rfl rfl (by decide +kernel) ⟨(Nat.le_of_ble_eq_true rfl), (Nat.le_of_ble_eq_true rfl)⟩) (va_recv hK hP (ci := 6) (q0 := 0) rfl rfl) rfl hl.1 (lv_room (Nat.le_of_ble_eq_true rfl)) dL_law_23 ⟨(by show _ ≤ 604962; omega), (by show _ ≤ 7286739; omega)⟩ hS hA rfl (fun locs hS => ?_)
  refine lv_topl (fun y ey => ?_)
  obtain rfl : y = 0 := ey.trans (zWord)
  refine lv_lconst (v := 0) hx hb dL_law_26 (by decide) ?_
  refine W.lcmp hx hb dL_law_27 ?_
  refine lv_if_ne (tgt := 70) hx hb dL_law_28 (by decide) (fun c_28 => absurd c_28 (fun h => h ((lg_cmp_eq _ _).mpr rfl))) (fun c_28 => ?_)
  refine lv_aload_n hx hb dL_law_31 rfl (lv_at hl 0 rfl) ?_
  refine lv_ldc2 (v := (-1)) hx hb hown (hts (.constantLong RL 63 (-1)) (by decide +kernel)) dL_law_32 ?_
  refine lv_iconst (v := 0) hx hb dL_law_35 (by decide) ?_
  refine lx_calli (As := [.ref (v 0), .long (-1), .int 0]) (rest := []) ⟨hx, hb, hml, hown, htl⟩ (x_L_mend_1 l hstk (v 0) (-1) 0 (by decide)) (vx_cwSW 3 htl gL_law_L_mend rfl rfl rfl (by decide +kernel) ⟨(Nat.le_of_ble_eq_true rfl), (Nat.le_of_ble_eq_true rfl)⟩) (va_recv hK hP (ci := 6) (q0 := 0) rfl rfl) rfl hl.1 (lv_room (Nat.le_of_ble_eq_true rfl)) dL_law_36 ⟨(by show _ ≤ 604962; omega), (by show _ ≤ 7286739; omega)⟩ hS rfl hxI hNc (fun H1 locs hkeep hS => ?_)
  have hP := hP.kept (fun k q hk => hkeep q.1 ((hP k q hk).lt))
  refine lv_ldc (v := (-900001)) hx hb hown (hts (.constant RL 23 (-900001)) (by decide +kernel)) dL_law_39 ?_
  refine lv_icmp_ne (tgt := 70) hx hb dL_law_41 (by decide) (fun c_41 => absurd c_41 (by decide)) (fun c_41 => ?_)
  refine lv_aload_n hx hb dL_law_44 rfl (lv_at hl 0 rfl) ?_
  refine lv_lconst (v := 0) hx hb dL_law_45 (by decide) ?_
  refine lv_sipush (v := 256) hx hb dL_law_46 (by decide) ?_
  refine lx_calli (As := [.ref (v 0), .long 0, .int 256]) (rest := []) ⟨hx, hb, hml, hown, htl⟩ (x_L_mend_2 l hstk (v 0) 0 256 (by decide) (by decide) (by decide)) (vx_cwSW 3 htl gL_law_L_mend rfl rfl rfl (by decide +kernel) ⟨(Nat.le_of_ble_eq_true rfl), (Nat.le_of_ble_eq_true rfl)⟩) (va_recv hK hP (ci := 6) (q0 := 0) rfl rfl) rfl hl.1 (lv_room (Nat.le_of_ble_eq_true rfl)) dL_law_49 ⟨(by show _ ≤ 604962; omega), (by show _ ≤ 7286739; omega)⟩ hS rfl hxI hNc (fun H1 locs hkeep hS => ?_)
  have hP := hP.kept (fun k q hk => hkeep q.1 ((hP k q hk).lt))
  refine lv_ldc (v := (-900001)) hx hb hown (hts (.constant RL 23 (-900001)) (by decide +kernel)) dL_law_52 ?_
  refine lv_icmp_ne (tgt := 70) hx hb dL_law_54 (by decide) (fun c_54 => absurd c_54 (by decide)) (fun c_54 => ?_)
  refine lv_aload_n hx hb dL_law_57 rfl (lv_at hl 0 rfl) ?_
  refine lv_lconst (v := 0) hx hb dL_law_58 (by decide) ?_
  refine lv_iconst (v := 0) hx hb dL_law_59 (by decide) ?_
  refine lo_calli (As := [.ref (v 0), .long 0, .int 0]) (rest := []) ⟨hx, hb, hml, hown, htl⟩ (c_L_mended l (v 0) 0 0 (by decide) (by decide) (by decide) (by decide) zRep) (vx_cwSW 3 htl gL_law_L_mended rfl rfl rfl (by decide +kernel) ⟨(Nat.le_of_ble_eq_true rfl), (Nat.le_of_ble_eq_true rfl)⟩) (va_recv hK hP (ci := 6) (q0 := 0) rfl rfl) rfl hl.1 (lv_room (Nat.le_of_ble_eq_true rfl)) dL_law_60 ⟨(by show _ ≤ 604962; omega), (by show _ ≤ 7286739; omega)⟩ hS hA rfl (fun locs hS => ?_)
  refine lv_topi (fun y ey => ?_)
  obtain rfl : y = 0 := ey.trans (zMended)
  refine lv_if_ne (tgt := 70) hx hb dL_law_63 (by decide) (fun c_63 => absurd c_63 (by decide)) (fun c_63 => ?_)
  refine lv_iconst (v := 1) hx hb dL_law_66 (by decide) ?_
  refine lv_goto (tgt := 71) hx hb dL_law_67 (by decide) ?_
  refine lv_istore_n (lv' := [(2, .int 1), (1, .ref (v 0)), (0, .ref b)]) hx hb dL_law_71 rfl hl (by decide) rfl (fun ls hl => ?_)
  refine lv_iconst (v := 0) hx hb dL_law_72 (by decide) ?_
  refine lv_istore_n (lv' := [(3, .int (nI 0)), (2, .int 1), (1, .ref (v 0)), (0, .ref b)]) hx hb dL_law_73 rfl hl (by decide) rfl (fun ls hl => ?_)
  refine W.widen (k := 60 + 10 * 0) (n := 700 + 60 * 0) (by omega) (by omega) ?_
  exact law_rounds l hL C0 CC (fun H locs ls hP hD hS hl => law_back l hL C0 CC hf H locs ls hP hD hS hl) 6 0 rfl _ _ ls hP hD hS (lv_sub hl [3, 2, 1, 0] rfl)
set_option maxHeartbeats 4000000 in
theorem lw_walk (l : Launch) (hflags : l.flags = flags0) (b : Addr) (xs : List Int32) : MetFree l x (headSpec (Jvm.Cond.code x code maxLocals ret :: tables_1) room_1) (lw_P b xs) (fun _ _ _ _ _ => True) lw_Q := by
  refine MetFree.of_bodyS (code := code) (maxLocals := maxLocals) (ret := ret) (by decide) ?_ ?_
  · intro args s m h hn
    obtain ⟨meth, c, h1, h2, h3, h4, h5, h6, -, -⟩ := Cond.code_spec hn (atoms_spec (ws := Jvm.Cond.code x code maxLocals ret :: tables_1) h _ List.mem_cons_self)
    exact ⟨meth, c, h1, h2, h3, h4, h5, h6⟩
  · intro p e s m args below meth c s₁ B hml0 hP _
    obtain ⟨rfl, hx, hbd, hgv⟩ := hP
    obtain ⟨scr, harrAt, hlist, hof, hsmall⟩ := hx
    obtain ⟨hcb, hkn, -, -⟩ := State.arrayAt?_spec harrAt
    have hown : s.vm.findClass R_law = some m.cls := findClass_of_methodNamed B.named
    have hts0 : ∀ c ∈ (Jvm.Cond.code x code maxLocals ret :: tables_1), c.before #[Value.ref b] s = true := atoms_spec (ws := Jvm.Cond.code x code maxLocals ret :: tables_1) B.pre
    have hts : ∀ w ∈ lw_tbl, w.before #[Value.ref b] s = true := k2_hts_sels lw_privs (fun w hw => hts0 w (List.mem_cons_of_mem _ hw)) lw_privs_ok
    have hml : c.maxLocals = 24 := B.maxLocals_eq (hts0 _ List.mem_cons_self)
    have X₀ : Stand p l e room_1 s m #[Value.ref b] below meth c s₁ [] 0 0 := Stand.of_body B
    have hh0 : s₁.heap = s.heap := by rw [B.state]; rfl
    have hsz : scr.slots.size = xs.length := by rw [← Array.length_toList, hlist, List.length_map]
    have hval : ∀ j : Nat, j < xs.length → scr.slots[j]? = some (.int (xs.getD j 0)) := fun j hj => by
      rw [← Array.getElem?_toList, hlist]
      simp [hj]
    have hbl : b < s.heap.size := (Array.getElem?_eq_some_iff.mp hcb).1
    have hX : va_X b xs.length (fun j => xs.getD j 0) s s.heap := ⟨scr, hcb, hof, hkn, hsz, hval⟩
    have K : W p l e room_1 s m #[Value.ref b] below meth c s₁.heap [] 0 0 (lw_Z below #[Value.ref b] s) (entryFrame m ([Value.ref b] : List Value).toArray 24) := by
      rw [hh0]
      exact whole_start l hflags hbd ⟨B.exec, B.bytes, B.returns, hml, hown, hts, hX, hbl, B.notSynchronized, hgv⟩
    obtain ⟨t, a1, o, b1, b2, b3⟩ := K s₁ rfl X₀
    exact ⟨t, o, a1, b1, b2, b3⟩
theorem lw_pre_spec {args : Array Value} {s : State} (h : (Jvm.Cond.and given_1 narrow_1).before args s = true) (hr : rest_1_c.before args s = true) : ∃ (b : Addr) (xs : List Int32), lw_P b xs args s := by
  have hs := flat_of_before _ h
  have hq := flat_of_before _ hr
  have hc : (Cond.count 1).before args s = true := hs _ (by decide +kernel)
  have harr : (Cond.arrayOf (.arg 0) .int).before args s = true := hs _ (by decide +kernel)
  have hle : (Cond.le (.length (.arg 0)) (.int 260)).before args s = true := hs _ (by decide +kernel)
  have hlen : (Cond.isInt (.length (.arg 0))).before args s = true := hq _ (by decide +kernel)
  have hall : (Cond.all (.arg 0) (.isInt (.elem (.arg 0) (.index 0)))).before args s = true := hq _ (by decide +kernel)
  obtain ⟨b, xs, hb, hx⟩ := State.ints_of_pre rfl harr hlen hall
  have hsm : xs.length < 2 ^ 31 := hx.choose_spec.2.2.2
  have hev : (Term.length (.arg 0)).eval args s none [] s = some (.int xs.length.toInt32) := hx.length_eval hb
  have hv := Cond.le_ints hev (show (Term.int 260).eval args s none [] s = some (.int 260) from rfl)
  have hd : xs.length.toInt32 ≤ 260 := by
    simpa [Cond.before, Cond.holds, hv] using hle
  have hN : xs.length ≤ 260 := (Int32.ofNat_le_ofNat hsm (by decide)).mp (show Int32.ofNat xs.length ≤ Int32.ofNat 260 from hd)
  exact ⟨b, xs, Cond.one_arg hc (show args[0]? = some (.ref b) from hb), hx, hN, h⟩
theorem lw_comes (l : Launch) (hflags : l.flags = flags0) : Comes l x (Jvm.Cond.code x code maxLocals ret :: tables_1) room_1 (fun tb e args s => Calls_1 tb e args s ∧ rest_1 tb e args s ∧ Pre_1 tb e args s)
    (fun _ _ args s o t => lw_Q args s o t) := by
  intro p e ha hc hk s m args below hf hfit hheap happ hpre
  obtain ⟨b, xs, hP⟩ := lw_pre_spec hpre.2.2 hpre.2.1
  obtain ⟨k, o, h1, h2, h3, hQ⟩ := lw_walk l hflags b xs p e ha hc hk s m args below hf ((Spec.applies_iff_loose hf).mp happ).1 hP trivial
  exact ⟨k, o, h1, h2, h3, hQ⟩
theorem lw_frame {s t : State} {o : Outcome} {args : Array Value} (h : Framed s o t [] 604962 7286739) :
    Framed s o t (fieldLocs frame_1_writes args s ++ arrayLocs frame_1_arrays args s ++ staticLocs frame_1_statics s) 604962 7286739 := h
theorem lw_limb (L : Cond) (hL : ∀ (args : Array Value) (s t : State), L.after args s (.returned (some (.int 1))) t = true) :
    ArmFor flags0 classFile x code maxLocals ret World_1 tables_1 room_1 Calls_1 rest_1 Pre_1
      (fun tb e a s o t => postC L tb e a s o t ∧ Framed s o t (fieldLocs frame_1_writes a s ++ arrayLocs frame_1_arrays a s ++ staticLocs frame_1_statics s) 604962 7286739) := by
  intro l hflags _ _ p e ha hc hk s m args below hf hfit hheap happ hpre
  obtain ⟨k, o, h1, h2, h3, rfl, hF⟩ := lw_comes l hflags p e ha hc hk s m args below hf hfit hheap happ hpre
  exact ⟨k, _, h1, h2, h3, hL args s _, lw_frame hF⟩
theorem i_vc : Claimed_1_1 ∧ Claimed_1_2 := ⟨lw_limb limb_1_1 (fun args s t => by simp [limb_1_1, Cond.after, Cond.holds, Cond.value]), lw_limb limb_1_2 (fun args s t => Cond.after_iff.mpr (by
  first | (rw [show limb_1_2 = Cond.eq .result (.int 1) from rfl, Cond.eq_ints (x := 1) (y := 1) rfl rfl]; simp; done) | (simp [limb_1_2, Cond.value, Term.eval]; done)))⟩
