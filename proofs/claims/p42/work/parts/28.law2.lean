set_option maxHeartbeats 8000000 in
set_option maxRecDepth 100000 in
/-- a round of the law from 80 on -/
theorem law_front {p : Program} {e : Env} {s : State} {m : MethodId} {below : List Frame} {meth : Method} {c : Code} (l : Launch) {D : va_G} {cJ : ClassId} {b L : Nat} {xs : Nat → Int32} (hL : L ≤ 260) (C0 : lw_At p s m meth c b L xs) (CC : lawC l s D cJ) {v : Nat → Nat} {sa sq nu ns nn f : Nat → Int64} {k : Nat} (hk : k < 6)
    (next : ∀ (H : Heap) (locs : List Loc) (ls : Array Slot), va_P D vwCl (oW cJ v 0 sa sq nu ns nn f) H → va_D (xA s) (oW cJ v 0 sa sq nu ns nn f) → va_S (xA s) s.heap H locs → lv_has ls 24 [(0, .ref b), (1, .ref (v 0)), (2, .int 1), (3, .int (nI (k + 1)))] → W p l e room_1 s m #[Value.ref b] below meth c H locs (60 + 10 * (k + 1)) (700 + 60 * (k + 1)) (lw_Z below #[Value.ref b] s) (F0 m 74 ls [])) :
    ∀ (H : Heap) (locs : List Loc) (ls : Array Slot), va_P D vwCl (oW cJ v 0 sa sq nu ns nn f) H → va_D (xA s) (oW cJ v 0 sa sq nu ns nn f) → va_S (xA s) s.heap H locs → lv_has ls 24 [(0, .ref b), (1, .ref (v 0)), (2, .int 1), (3, .int (nI k))] → W p l e room_1 s m #[Value.ref b] below meth c H locs (60 + 10 * k) (700 + 60 * k) (lw_Z below #[Value.ref b] s) (F0 m 80 ls []) := by
  obtain ⟨hx, hb, hr, hml, hown, hts, hX, hbl, hlocks, hgv⟩ := id C0
  obtain ⟨hstk, hK, hxI, hxN, hNc, hZone⟩ := id CC
  have htl : ∀ w ∈ wsL_law, w.before #[Value.ref b] s = true := fun w h => hts w (wsL_law_in w h)
  have hts : ∀ w ∈ wsL_law, w.before #[Value.ref b] s = true := htl
  have hA : ∀ q : Nat, s.heap.size ≤ q → xA s q := fun _ h => h
  have hbA : ¬ xA s b := Nat.not_le.mpr hbl
  intro H locs ls hP hD hS hl
  refine lv_aload_n hx hb dL_law_80 rfl (lv_at hl 0 rfl) ?_
  refine lv_iload_n hx hb dL_law_81 rfl (lv_at hl 3 rfl) ?_
  refine lv_ldc (v := 65536) hx hb hown (hts (.constant RL 59 65536) (by decide +kernel)) dL_law_82 ?_
  refine sc_calli (As := [.ref b, .int (nI k), .int 65536]) (rest := []) ⟨hx, hb, hml, hown, htl⟩ (c_L_in l b L k hL (by omega) xs 65536 (by decide)) (va_cwS 3 htl gL_law_L_in rfl rfl rfl (by decide +kernel) ⟨(Nat.le_of_ble_eq_true rfl), (Nat.le_of_ble_eq_true rfl)⟩) rfl hl.1 (lv_room (Nat.le_of_ble_eq_true rfl)) dL_law_84 ⟨(by show _ ≤ 604962; omega), (by show _ ≤ 7286739; omega)⟩ hS hA rfl (hX.kept (hS.2.1 b hbl hbA)) (Nat.lt_of_lt_of_le hbl hS.1) (fun locs hS => ?_)
  obtain ⟨V, hV, eV⟩ := gIn_lt L xs (k) (N := 65536) (by decide) (by decide)
  refine lv_topi (fun y ey => ?_)
  obtain rfl : y = nI V := ey.trans (eV)
  have hn : wN V < 2 ^ 32 := wN_lt hV
  have hs : syN (wN V) = 0 := wN_sy hV
  refine lv_istore (lv' := [(4, .int (nI V)), (0, .ref b), (1, .ref (v 0)), (2, .int 1), (3, .int (nI k))]) hx hb dL_law_87 hl (by decide) rfl (fun ls hl => ?_)
  refine lv_aload_n hx hb dL_law_89 rfl (lv_at hl 2 rfl) ?_
  refine lv_iload hx hb dL_law_90 (lv_at hl 0 rfl) ?_
  refine lo_calll (As := [.ref (v 0), .int (nI V)]) (rest := []) ⟨hx, hb, hml, hown, htl⟩ (c_L_word l (v 0) (nI V) (nI_lnn (by omega)) (nI_ltop (M := 65535) (by omega) (by decide))) (vx_cwSW 2 htl gL_law_L_word rfl rfl rfl (by decide +kernel) ⟨(Nat.le_of_ble_eq_true rfl), (Nat.le_of_ble_eq_true rfl)⟩) (va_recv hK hP (ci := 6) (q0 := 0) rfl rfl) rfl hl.1 (lv_room (Nat.le_of_ble_eq_true rfl)) dL_law_92 ⟨(by show _ ≤ 604962; omega), (by show _ ≤ 7286739; omega)⟩ hS hA rfl (fun locs hS => ?_)
  refine lv_topl (fun y ey => ?_)
  obtain rfl : y = lN (wN V) := ey.trans (cOf hV)
  refine lv_lstore (lv' := [(5, .long (lN (wN V))), (4, .int (nI V)), (0, .ref b), (1, .ref (v 0)), (2, .int 1), (3, .int (nI k))]) hx hb dL_law_95 hl (by decide) rfl (fun ls hl => ?_)
  refine lv_iload_n hx hb dL_law_97 rfl (lv_at hl 4 rfl) ?_
  refine lv_lload hx hb dL_law_98 (lv_at hl 0 rfl) ?_
  refine pu_calli (As := [.long (lN (wN V))]) (rest := [.int 1]) ⟨hx, hb, hml, hown, htl⟩ (c_L_isWord l (lN (wN V))) (va_cwS 1 htl gL_law_L_isWord rfl rfl rfl (by decide +kernel) ⟨(Nat.le_of_ble_eq_true rfl), (Nat.le_of_ble_eq_true rfl)⟩) rfl hl.1 (lv_room (Nat.le_of_ble_eq_true rfl)) dL_law_100 ⟨(by show _ ≤ 604962; omega), (by show _ ≤ 7286739; omega)⟩ hS hA rfl (fun locs hS => ?_)
  refine lv_topi (fun y ey => ?_)
  obtain rfl : y = 1 := ey.trans (gIsW_ok hn hs)
  refine lv_if_eq (tgt := 152) hx hb dL_law_103 (by decide) (fun c_103 => absurd c_103 (by decide)) (fun c_103 => ?_)
  refine lv_lload hx hb dL_law_106 (lv_at hl 0 rfl) ?_
  refine lv_ldc2 (v := 65535) hx hb hown (hts (.constantLong RL 78 65535) (by decide +kernel)) dL_law_108 ?_
  refine lv_land hx hb dL_law_111 ?_
  refine lv_topl (fun y ey => ?_)
  obtain rfl : y = lN V := ey.trans (lMask hn (wN_mod hV))
  refine lv_iload hx hb dL_law_112 (lv_at hl 1 rfl) ?_
  refine lv_i2l hx hb dL_law_114 rfl ?_
  refine lv_topl (fun y ey => ?_)
  obtain rfl : y = lN V := ey.trans (nI_l (by omega))
  refine W.lcmp hx hb dL_law_115 ?_
  refine lv_if_ne (tgt := 152) hx hb dL_law_116 (by decide) (fun c_116 => absurd c_116 (fun h => h ((lg_cmp_eq _ _).mpr rfl))) (fun c_116 => ?_)
  refine lv_lload hx hb dL_law_119 (lv_at hl 0 rfl) ?_
  refine lv_lconst (v := 0) hx hb dL_law_121 (by decide) ?_
  refine W.lcmp hx hb dL_law_122 ?_
  refine lv_if_lt (tgt := 152) hx hb dL_law_123 (by decide) (fun c_123 => absurd c_123 (fun h => lN_nn hn ((lg_cmp_lt _ _).mp h))) (fun c_123 => ?_)
  refine lv_aload_n hx hb dL_law_126 rfl (lv_at hl 3 rfl) ?_
  refine lv_lload hx hb dL_law_127 (lv_at hl 0 rfl) ?_
  refine lv_iconst (v := 0) hx hb dL_law_129 (by decide) ?_
  refine lo_calli (As := [.ref (v 0), .long (lN (wN V)), .int 0]) (rest := [.int 1]) ⟨hx, hb, hml, hown, htl⟩ (c_L_mend l (v 0) (lN (wN V)) (0) (lN_nn hn) (lN_top hn) (by decide) (by decide) (by rw [(m0 hn hs).1]; exact lN_ne1 hn)) (vx_cwSW 3 htl gL_law_L_mend rfl rfl rfl (by decide +kernel) ⟨(Nat.le_of_ble_eq_true rfl), (Nat.le_of_ble_eq_true rfl)⟩) (va_recv hK hP (ci := 6) (q0 := 0) rfl rfl) rfl hl.1 (lv_room (Nat.le_of_ble_eq_true rfl)) dL_law_130 ⟨(by show _ ≤ 604962; omega), (by show _ ≤ 7286739; omega)⟩ hS hA rfl (fun locs hS => ?_)
  refine lv_topi (fun y ey => ?_)
  obtain rfl : y = nI V := ey.trans (by rw [(m0 hn hs).1, wVal hV])
  refine lv_iload hx hb dL_law_133 (lv_at hl 1 rfl) ?_
  refine lv_icmp_ne (tgt := 152) hx hb dL_law_135 (by decide) (fun c_135 => absurd c_135 (fun h => h rfl)) (fun c_135 => ?_)
  refine lv_aload_n hx hb dL_law_138 rfl (lv_at hl 3 rfl) ?_
  refine lv_lload hx hb dL_law_139 (lv_at hl 0 rfl) ?_
  refine lv_iconst (v := 0) hx hb dL_law_141 (by decide) ?_
  refine lo_calli (As := [.ref (v 0), .long (lN (wN V)), .int 0]) (rest := [.int 1]) ⟨hx, hb, hml, hown, htl⟩ (c_L_mended l (v 0) (lN (wN V)) (0) (lN_nn hn) (lN_top hn) (by decide) (by decide) (by rw [(m0 hn hs).1]; exact lN_ne1 hn)) (vx_cwSW 3 htl gL_law_L_mended rfl rfl rfl (by decide +kernel) ⟨(Nat.le_of_ble_eq_true rfl), (Nat.le_of_ble_eq_true rfl)⟩) (va_recv hK hP (ci := 6) (q0 := 0) rfl rfl) rfl hl.1 (lv_room (Nat.le_of_ble_eq_true rfl)) dL_law_142 ⟨(by show _ ≤ 604962; omega), (by show _ ≤ 7286739; omega)⟩ hS hA rfl (fun locs hS => ?_)
  refine lv_topi (fun y ey => ?_)
  obtain rfl : y = 0 := ey.trans (by rw [(m0 hn hs).1, (m0 hn hs).2])
  refine lv_if_ne (tgt := 152) hx hb dL_law_145 (by decide) (fun c_145 => absurd c_145 (by decide)) (fun c_145 => ?_)
  refine lv_iconst (v := 1) hx hb dL_law_148 (by decide) ?_
  refine lv_goto (tgt := 153) hx hb dL_law_149 (by decide) ?_
  refine lv_iand hx hb dL_law_153 ?_
  refine lv_istore_n (lv' := [(2, .int 1), (5, .long (lN (wN V))), (4, .int (nI V)), (0, .ref b), (1, .ref (v 0)), (3, .int (nI k))]) hx hb dL_law_154 rfl hl (by decide) rfl (fun ls hl => ?_)
  refine lv_aload_n hx hb dL_law_155 rfl (lv_at hl 3 rfl) ?_
  refine lv_bipush (v := 10) hx hb dL_law_156 (by decide) ?_
  refine lv_iload_n hx hb dL_law_158 rfl (lv_at hl 5 rfl) ?_
  refine lv_iadd hx hb dL_law_159 ?_
  refine lv_topi (fun y ey => ?_)
  obtain rfl : y = nI (10 + k) := ey.trans (nI_add 10 k)
  refine lv_bipush (v := 8) hx hb dL_law_160 (by decide) ?_
  refine sc_calli (As := [.ref b, .int (nI (10 + k)), .int 8]) (rest := []) ⟨hx, hb, hml, hown, htl⟩ (c_L_in l b L (10 + k) hL (by omega) xs 8 (by decide)) (va_cwS 3 htl gL_law_L_in rfl rfl rfl (by decide +kernel) ⟨(Nat.le_of_ble_eq_true rfl), (Nat.le_of_ble_eq_true rfl)⟩) rfl hl.1 (lv_room (Nat.le_of_ble_eq_true rfl)) dL_law_162 ⟨(by show _ ≤ 604962; omega), (by show _ ≤ 7286739; omega)⟩ hS hA rfl (hX.kept (hS.2.1 b hbl hbA)) (Nat.lt_of_lt_of_le hbl hS.1) (fun locs hS => ?_)
  obtain ⟨a, ha, ea⟩ := gIn_lt L xs (10 + k) (N := 8) (by decide) (by decide)
  refine lv_topi (fun y ey => ?_)
  obtain rfl : y = nI a := ey.trans (ea)
  refine lv_istore (lv' := [(7, .int (nI a)), (2, .int 1), (5, .long (lN (wN V))), (4, .int (nI V)), (0, .ref b), (1, .ref (v 0)), (3, .int (nI k))]) hx hb dL_law_165 hl (by decide) rfl (fun ls hl => ?_)
  refine lv_iload hx hb dL_law_167 (lv_at hl 0 rfl) ?_
  refine lv_iconst (v := 1) hx hb dL_law_169 (by decide) ?_
  refine lv_iadd hx hb dL_law_170 ?_
  refine lv_topi (fun y ey => ?_)
  obtain rfl : y = nI (a + 1) := ey.trans (nI_1 a)
  refine lv_aload_n hx hb dL_law_171 rfl (lv_at hl 4 rfl) ?_
  refine lv_bipush (v := 20) hx hb dL_law_172 (by decide) ?_
  refine lv_iload_n hx hb dL_law_174 rfl (lv_at hl 6 rfl) ?_
  refine lv_iadd hx hb dL_law_175 ?_
  refine lv_topi (fun y ey => ?_)
  obtain rfl : y = nI (20 + k) := ey.trans (nI_add 20 k)
  refine lv_bipush (v := 7) hx hb dL_law_176 (by decide) ?_
  refine sc_calli (As := [.ref b, .int (nI (20 + k)), .int 7]) (rest := [.int (nI (a + 1))]) ⟨hx, hb, hml, hown, htl⟩ (c_L_in l b L (20 + k) hL (by omega) xs 7 (by decide)) (va_cwS 3 htl gL_law_L_in rfl rfl rfl (by decide +kernel) ⟨(Nat.le_of_ble_eq_true rfl), (Nat.le_of_ble_eq_true rfl)⟩) rfl hl.1 (lv_room (Nat.le_of_ble_eq_true rfl)) dL_law_178 ⟨(by show _ ≤ 604962; omega), (by show _ ≤ 7286739; omega)⟩ hS hA rfl (hX.kept (hS.2.1 b hbl hbA)) (Nat.lt_of_lt_of_le hbl hS.1) (fun locs hS => ?_)
  obtain ⟨t7, ht7, et7⟩ := gIn_lt L xs (20 + k) (N := 7) (by decide) (by decide)
  refine lv_topi (fun y ey => ?_)
  obtain rfl : y = nI t7 := ey.trans (et7)
  refine lv_iadd hx hb dL_law_181 ?_
  refine lv_topi (fun y ey => ?_)
  obtain rfl : y = nI (a + 1 + t7) := ey.trans (nI_add (a + 1) t7)
  refine lv_bipush (v := 8) hx hb dL_law_182 (by decide) ?_
  refine lv_irem hx hb dL_law_184 (by decide) ?_
  obtain ⟨d2, ed2⟩ : ∃ d2, d2 = (a + 1 + t7) % 8 := ⟨_, rfl⟩
  have hd2 : d2 < 8 := by omega
  have had : a ≠ d2 := by omega
  refine lv_topi (fun y ey => ?_)
  obtain rfl : y = nI d2 := ey.trans ((lRem (d := 8) (by omega) (by decide) (by decide)).trans (congrArg nI ed2.symm))
  refine lv_istore (lv' := [(8, .int (nI d2)), (7, .int (nI a)), (2, .int 1), (5, .long (lN (wN V))), (4, .int (nI V)), (0, .ref b), (1, .ref (v 0)), (3, .int (nI k))]) hx hb dL_law_185 hl (by decide) rfl (fun ls hl => ?_)
  refine lv_iconst (v := 1) hx hb dL_law_187 (by decide) ?_
  refine lv_aload_n hx hb dL_law_188 rfl (lv_at hl 5 rfl) ?_
  refine lv_bipush (v := 30) hx hb dL_law_189 (by decide) ?_
  refine lv_iload_n hx hb dL_law_191 rfl (lv_at hl 7 rfl) ?_
  refine lv_iadd hx hb dL_law_192 ?_
  refine lv_topi (fun y ey => ?_)
  obtain rfl : y = nI (30 + k) := ey.trans (nI_add 30 k)
  refine lv_bipush (v := 15) hx hb dL_law_193 (by decide) ?_
  refine sc_calli (As := [.ref b, .int (nI (30 + k)), .int 15]) (rest := [.int 1]) ⟨hx, hb, hml, hown, htl⟩ (c_L_in l b L (30 + k) hL (by omega) xs 15 (by decide)) (va_cwS 3 htl gL_law_L_in rfl rfl rfl (by decide +kernel) ⟨(Nat.le_of_ble_eq_true rfl), (Nat.le_of_ble_eq_true rfl)⟩) rfl hl.1 (lv_room (Nat.le_of_ble_eq_true rfl)) dL_law_195 ⟨(by show _ ≤ 604962; omega), (by show _ ≤ 7286739; omega)⟩ hS hA rfl (hX.kept (hS.2.1 b hbl hbA)) (Nat.lt_of_lt_of_le hbl hS.1) (fun locs hS => ?_)
  obtain ⟨j1, hj1, ej1⟩ := gIn_lt L xs (30 + k) (N := 15) (by decide) (by decide)
  refine lv_topi (fun y ey => ?_)
  obtain rfl : y = nI j1 := ey.trans (ej1)
  refine lv_iadd hx hb dL_law_198 ?_
  obtain ⟨B, eB⟩ : ∃ B, B = 1 + j1 := ⟨_, rfl⟩
  have hB16 : B < 16 := by omega
  have hB0 : B ≠ 0 := by omega
  refine lv_topi (fun y ey => ?_)
  obtain rfl : y = nI B := ey.trans ((nI_add 1 j1).trans (congrArg nI eB.symm))
  refine lv_istore (lv' := [(9, .int (nI B)), (8, .int (nI d2)), (7, .int (nI a)), (2, .int 1), (5, .long (lN (wN V))), (4, .int (nI V)), (0, .ref b), (1, .ref (v 0)), (3, .int (nI k))]) hx hb dL_law_199 hl (by decide) rfl (fun ls hl => ?_)
  refine lv_iconst (v := 1) hx hb dL_law_201 (by decide) ?_
  refine lv_aload_n hx hb dL_law_202 rfl (lv_at hl 6 rfl) ?_
  refine lv_bipush (v := 40) hx hb dL_law_203 (by decide) ?_
  refine lv_iload_n hx hb dL_law_205 rfl (lv_at hl 8 rfl) ?_
  refine lv_iadd hx hb dL_law_206 ?_
  refine lv_topi (fun y ey => ?_)
  obtain rfl : y = nI (40 + k) := ey.trans (nI_add 40 k)
  refine lv_bipush (v := 15) hx hb dL_law_207 (by decide) ?_
  refine sc_calli (As := [.ref b, .int (nI (40 + k)), .int 15]) (rest := [.int 1]) ⟨hx, hb, hml, hown, htl⟩ (c_L_in l b L (40 + k) hL (by omega) xs 15 (by decide)) (va_cwS 3 htl gL_law_L_in rfl rfl rfl (by decide +kernel) ⟨(Nat.le_of_ble_eq_true rfl), (Nat.le_of_ble_eq_true rfl)⟩) rfl hl.1 (lv_room (Nat.le_of_ble_eq_true rfl)) dL_law_209 ⟨(by show _ ≤ 604962; omega), (by show _ ≤ 7286739; omega)⟩ hS hA rfl (hX.kept (hS.2.1 b hbl hbA)) (Nat.lt_of_lt_of_le hbl hS.1) (fun locs hS => ?_)
  obtain ⟨j2, hj2, ej2⟩ := gIn_lt L xs (40 + k) (N := 15) (by decide) (by decide)
  refine lv_topi (fun y ey => ?_)
  obtain rfl : y = nI j2 := ey.trans (ej2)
  refine lv_iadd hx hb dL_law_212 ?_
  obtain ⟨C, eC⟩ : ∃ C, C = 1 + j2 := ⟨_, rfl⟩
  have hC16 : C < 16 := by omega
  have hC0 : C ≠ 0 := by omega
  refine lv_topi (fun y ey => ?_)
  obtain rfl : y = nI C := ey.trans ((nI_add 1 j2).trans (congrArg nI eC.symm))
  refine lv_istore (lv' := [(10, .int (nI C)), (9, .int (nI B)), (8, .int (nI d2)), (7, .int (nI a)), (2, .int 1), (5, .long (lN (wN V))), (4, .int (nI V)), (0, .ref b), (1, .ref (v 0)), (3, .int (nI k))]) hx hb dL_law_213 hl (by decide) rfl (fun ls hl => ?_)
  refine lv_lload hx hb dL_law_215 (lv_at hl 5 rfl) ?_
  refine lv_iload hx hb dL_law_217 (lv_at hl 1 rfl) ?_
  refine lv_i2l hx hb dL_law_219 rfl ?_
  refine lv_iconst (v := 4) hx hb dL_law_220 (by decide) ?_
  refine lv_iload hx hb dL_law_221 (lv_at hl 3 rfl) ?_
  refine lv_imul hx hb dL_law_223 ?_
  refine lv_lshl hx hb dL_law_224 rfl ?_
  refine lv_lxor hx hb dL_law_225 ?_
  refine lv_topl (fun y ey => ?_)
  obtain rfl : y = lN (wN V ^^^ bp B a) := ey.trans (lTurn ha hB16)
  refine lv_lstore (lv' := [(11, .long (lN (wN V ^^^ bp B a))), (10, .int (nI C)), (9, .int (nI B)), (8, .int (nI d2)), (7, .int (nI a)), (2, .int 1), (5, .long (lN (wN V))), (4, .int (nI V)), (0, .ref b), (1, .ref (v 0)), (3, .int (nI k))]) hx hb dL_law_226 hl (by decide) rfl (fun ls hl => ?_)
  refine lv_lload hx hb dL_law_228 (lv_at hl 0 rfl) ?_
  refine lv_iload hx hb dL_law_230 (lv_at hl 1 rfl) ?_
  refine lv_i2l hx hb dL_law_232 rfl ?_
  refine lv_iconst (v := 4) hx hb dL_law_233 (by decide) ?_
  refine lv_iload hx hb dL_law_234 (lv_at hl 3 rfl) ?_
  refine lv_imul hx hb dL_law_236 ?_
  refine lv_lshl hx hb dL_law_237 rfl ?_
  refine lv_lxor hx hb dL_law_238 ?_
  refine lv_topl (fun y ey => ?_)
  obtain rfl : y = lN (wN V ^^^ (bp B a ^^^ bp C d2)) := ey.trans ((lTurn hd2 hC16).trans (congrArg lN (Nat.xor_assoc _ _ _)))
  refine lv_lstore (lv' := [(13, .long (lN (wN V ^^^ (bp B a ^^^ bp C d2)))), (11, .long (lN (wN V ^^^ bp B a))), (10, .int (nI C)), (9, .int (nI B)), (8, .int (nI d2)), (7, .int (nI a)), (2, .int 1), (5, .long (lN (wN V))), (4, .int (nI V)), (0, .ref b), (1, .ref (v 0)), (3, .int (nI k))]) hx hb dL_law_239 hl (by decide) rfl (fun ls hl => ?_)
  refine lv_iload_n hx hb dL_law_241 rfl (lv_at hl 6 rfl) ?_
  refine lv_aload_n hx hb dL_law_242 rfl (lv_at hl 10 rfl) ?_
  refine lv_lload hx hb dL_law_243 (lv_at hl 1 rfl) ?_
  refine lv_iconst (v := 0) hx hb dL_law_245 (by decide) ?_
  refine lo_calli (As := [.ref (v 0), .long (lN (wN V ^^^ bp B a)), .int 0]) (rest := [.int 1]) ⟨hx, hb, hml, hown, htl⟩ (c_L_mend l (v 0) (lN (wN V ^^^ bp B a)) (0) (lN_nn (x32 hn (bp32 hB16 ha))) (lN_top (x32 hn (bp32 hB16 ha))) (by decide) (by decide) (by rw [(m1 hn hs ha hB16 hB0).1]; exact lN_ne1 hn)) (vx_cwSW 3 htl gL_law_L_mend rfl rfl rfl (by decide +kernel) ⟨(Nat.le_of_ble_eq_true rfl), (Nat.le_of_ble_eq_true rfl)⟩) (va_recv hK hP (ci := 6) (q0 := 0) rfl rfl) rfl hl.1 (lv_room (Nat.le_of_ble_eq_true rfl)) dL_law_246 ⟨(by show _ ≤ 604962; omega), (by show _ ≤ 7286739; omega)⟩ hS hA rfl (fun locs hS => ?_)
  refine lv_topi (fun y ey => ?_)
  obtain rfl : y = nI V := ey.trans (by rw [(m1 hn hs ha hB16 hB0).1, wVal hV])
  refine lv_iload hx hb dL_law_249 (lv_at hl 8 rfl) ?_
  refine lv_icmp_ne (tgt := 292) hx hb dL_law_251 (by decide) (fun c_251 => absurd c_251 (fun h => h rfl)) (fun c_251 => ?_)
  refine lv_aload_n hx hb dL_law_254 rfl (lv_at hl 10 rfl) ?_
  refine lv_lload hx hb dL_law_255 (lv_at hl 1 rfl) ?_
  refine lv_iconst (v := 0) hx hb dL_law_257 (by decide) ?_
  refine lo_calli (As := [.ref (v 0), .long (lN (wN V ^^^ bp B a)), .int 0]) (rest := [.int 1]) ⟨hx, hb, hml, hown, htl⟩ (c_L_mended l (v 0) (lN (wN V ^^^ bp B a)) (0) (lN_nn (x32 hn (bp32 hB16 ha))) (lN_top (x32 hn (bp32 hB16 ha))) (by decide) (by decide) (by rw [(m1 hn hs ha hB16 hB0).1]; exact lN_ne1 hn)) (vx_cwSW 3 htl gL_law_L_mended rfl rfl rfl (by decide +kernel) ⟨(Nat.le_of_ble_eq_true rfl), (Nat.le_of_ble_eq_true rfl)⟩) (va_recv hK hP (ci := 6) (q0 := 0) rfl rfl) rfl hl.1 (lv_room (Nat.le_of_ble_eq_true rfl)) dL_law_258 ⟨(by show _ ≤ 604962; omega), (by show _ ≤ 7286739; omega)⟩ hS hA rfl (fun locs hS => ?_)
  refine lv_topi (fun y ey => ?_)
  obtain rfl : y = 1 := ey.trans (by rw [(m1 hn hs ha hB16 hB0).1, (m1 hn hs ha hB16 hB0).2])
  refine lv_iconst (v := 1) hx hb dL_law_261 (by decide) ?_
  refine lv_icmp_ne (tgt := 292) hx hb dL_law_262 (by decide) (fun c_262 => absurd c_262 (by decide)) (fun c_262 => ?_)
  refine lv_aload_n hx hb dL_law_265 rfl (lv_at hl 10 rfl) ?_
  refine lv_lload hx hb dL_law_266 (lv_at hl 0 rfl) ?_
  refine lv_iconst (v := 0) hx hb dL_law_268 (by decide) ?_
  refine lo_calli (As := [.ref (v 0), .long (lN (wN V ^^^ (bp B a ^^^ bp C d2))), .int 0]) (rest := [.int 1]) ⟨hx, hb, hml, hown, htl⟩ (c_L_mend l (v 0) (lN (wN V ^^^ (bp B a ^^^ bp C d2))) (0) (lN_nn (x32 hn (e2_32 ha hd2 hB16 hC16))) (lN_top (x32 hn (e2_32 ha hd2 hB16 hC16))) (by decide) (by decide) (by rw [(m2 hn hs ha hd2 had hB16 hC16)]; exact lN_ne1 hn)) (vx_cwSW 3 htl gL_law_L_mend rfl rfl rfl (by decide +kernel) ⟨(Nat.le_of_ble_eq_true rfl), (Nat.le_of_ble_eq_true rfl)⟩) (va_recv hK hP (ci := 6) (q0 := 0) rfl rfl) rfl hl.1 (lv_room (Nat.le_of_ble_eq_true rfl)) dL_law_269 ⟨(by show _ ≤ 604962; omega), (by show _ ≤ 7286739; omega)⟩ hS hA rfl (fun locs hS => ?_)
  refine lv_topi (fun y ey => ?_)
  obtain rfl : y = nI V := ey.trans (by rw [(m2 hn hs ha hd2 had hB16 hC16), wVal hV])
  refine lv_iload hx hb dL_law_272 (lv_at hl 8 rfl) ?_
  refine lv_icmp_ne (tgt := 292) hx hb dL_law_274 (by decide) (fun c_274 => absurd c_274 (fun h => h rfl)) (fun c_274 => ?_)
  refine lv_aload_n hx hb dL_law_277 rfl (lv_at hl 10 rfl) ?_
  refine lv_lload hx hb dL_law_278 (lv_at hl 0 rfl) ?_
  refine lv_iconst (v := 0) hx hb dL_law_280 (by decide) ?_
  refine lo_calli (As := [.ref (v 0), .long (lN (wN V ^^^ (bp B a ^^^ bp C d2))), .int 0]) (rest := [.int 1]) ⟨hx, hb, hml, hown, htl⟩ (c_L_mended l (v 0) (lN (wN V ^^^ (bp B a ^^^ bp C d2))) (0) (lN_nn (x32 hn (e2_32 ha hd2 hB16 hC16))) (lN_top (x32 hn (e2_32 ha hd2 hB16 hC16))) (by decide) (by decide) (by rw [(m2 hn hs ha hd2 had hB16 hC16)]; exact lN_ne1 hn)) (vx_cwSW 3 htl gL_law_L_mended rfl rfl rfl (by decide +kernel) ⟨(Nat.le_of_ble_eq_true rfl), (Nat.le_of_ble_eq_true rfl)⟩) (va_recv hK hP (ci := 6) (q0 := 0) rfl rfl) rfl hl.1 (lv_room (Nat.le_of_ble_eq_true rfl)) dL_law_281 ⟨(by show _ ≤ 604962; omega), (by show _ ≤ 7286739; omega)⟩ hS hA rfl (fun locs hS => ?_)
  refine lv_topi (fun y ey => ?_)
  obtain rfl : y = 2 := ey.trans (by rw [(m2 hn hs ha hd2 had hB16 hC16), (m2d hn ha hd2 had hB16 hB0 hC16 hC0)])
  refine lv_iconst (v := 2) hx hb dL_law_284 (by decide) ?_
  refine lv_icmp_ne (tgt := 292) hx hb dL_law_285 (by decide) (fun c_285 => absurd c_285 (by decide)) (fun c_285 => ?_)
  refine lv_iconst (v := 1) hx hb dL_law_288 (by decide) ?_
  refine lv_goto (tgt := 293) hx hb dL_law_289 (by decide) ?_
  refine lv_iand hx hb dL_law_293 ?_
  refine lv_istore_n (lv' := [(2, .int 1), (13, .long (lN (wN V ^^^ (bp B a ^^^ bp C d2)))), (11, .long (lN (wN V ^^^ bp B a))), (10, .int (nI C)), (9, .int (nI B)), (8, .int (nI d2)), (7, .int (nI a)), (5, .long (lN (wN V))), (4, .int (nI V)), (0, .ref b), (1, .ref (v 0)), (3, .int (nI k))]) hx hb dL_law_294 rfl hl (by decide) rfl (fun ls hl => ?_)
  refine lv_iconst (v := 1) hx hb dL_law_295 (by decide) ?_
  refine lv_iload hx hb dL_law_296 (lv_at hl 6 rfl) ?_
  refine lv_ishl hx hb dL_law_298 ?_
  refine lv_iconst (v := 1) hx hb dL_law_299 (by decide) ?_
  refine lv_iload hx hb dL_law_300 (lv_at hl 5 rfl) ?_
  refine lv_ishl hx hb dL_law_302 ?_
  refine lv_ior hx hb dL_law_303 ?_
  refine lv_topi (fun y ey => ?_)
  obtain rfl : y = nI (2 ^ a ||| 2 ^ d2) := ey.trans (lWeak ha hd2)
  refine lv_istore (lv' := [(15, .int (nI (2 ^ a ||| 2 ^ d2))), (2, .int 1), (13, .long (lN (wN V ^^^ (bp B a ^^^ bp C d2)))), (11, .long (lN (wN V ^^^ bp B a))), (10, .int (nI C)), (9, .int (nI B)), (8, .int (nI d2)), (7, .int (nI a)), (5, .long (lN (wN V))), (4, .int (nI V)), (0, .ref b), (1, .ref (v 0)), (3, .int (nI k))]) hx hb dL_law_304 hl (by decide) rfl (fun ls hl => ?_)
  refine lv_iload_n hx hb dL_law_306 rfl (lv_at hl 1 rfl) ?_
  refine lv_aload_n hx hb dL_law_307 rfl (lv_at hl 11 rfl) ?_
  refine lv_lload hx hb dL_law_308 (lv_at hl 2 rfl) ?_
  refine lv_iload hx hb dL_law_310 (lv_at hl 0 rfl) ?_
  refine lo_calli (As := [.ref (v 0), .long (lN (wN V ^^^ (bp B a ^^^ bp C d2))), .int (nI (2 ^ a ||| 2 ^ d2))]) (rest := [.int 1]) ⟨hx, hb, hml, hown, htl⟩ (c_L_mend l (v 0) (lN (wN V ^^^ (bp B a ^^^ bp C d2))) (nI (2 ^ a ||| 2 ^ d2)) (lN_nn (x32 hn (e2_32 ha hd2 hB16 hC16))) (lN_top (x32 hn (e2_32 ha hd2 hB16 hC16))) (nI_lnn (Nat.lt_trans (or256 (p256 ha) (p256 hd2)) (by decide))) (nI_ltop (M := 255) (Nat.le_of_lt_succ (or256 (p256 ha) (p256 hd2))) (by decide)) (by rw [(m3 hn hs ha hd2 had hB16 hC16)]; exact lN_ne1 hn)) (vx_cwSW 3 htl gL_law_L_mend rfl rfl rfl (by decide +kernel) ⟨(Nat.le_of_ble_eq_true rfl), (Nat.le_of_ble_eq_true rfl)⟩) (va_recv hK hP (ci := 6) (q0 := 0) rfl rfl) rfl hl.1 (lv_room (Nat.le_of_ble_eq_true rfl)) dL_law_312 ⟨(by show _ ≤ 604962; omega), (by show _ ≤ 7286739; omega)⟩ hS hA rfl (fun locs hS => ?_)
  refine lv_topi (fun y ey => ?_)
  obtain rfl : y = nI V := ey.trans (by rw [(m3 hn hs ha hd2 had hB16 hC16), wVal hV])
  refine lv_iload hx hb dL_law_315 (lv_at hl 9 rfl) ?_
  refine lv_icmp_ne (tgt := 336) hx hb dL_law_317 (by decide) (fun c_317 => absurd c_317 (fun h => h rfl)) (fun c_317 => ?_)
  refine lv_aload_n hx hb dL_law_320 rfl (lv_at hl 11 rfl) ?_
  refine lv_lload hx hb dL_law_321 (lv_at hl 2 rfl) ?_
  refine lv_iload hx hb dL_law_323 (lv_at hl 0 rfl) ?_
  refine lo_calli (As := [.ref (v 0), .long (lN (wN V ^^^ (bp B a ^^^ bp C d2))), .int (nI (2 ^ a ||| 2 ^ d2))]) (rest := [.int 1]) ⟨hx, hb, hml, hown, htl⟩ (c_L_mended l (v 0) (lN (wN V ^^^ (bp B a ^^^ bp C d2))) (nI (2 ^ a ||| 2 ^ d2)) (lN_nn (x32 hn (e2_32 ha hd2 hB16 hC16))) (lN_top (x32 hn (e2_32 ha hd2 hB16 hC16))) (nI_lnn (Nat.lt_trans (or256 (p256 ha) (p256 hd2)) (by decide))) (nI_ltop (M := 255) (Nat.le_of_lt_succ (or256 (p256 ha) (p256 hd2))) (by decide)) (by rw [(m3 hn hs ha hd2 had hB16 hC16)]; exact lN_ne1 hn)) (vx_cwSW 3 htl gL_law_L_mended rfl rfl rfl (by decide +kernel) ⟨(Nat.le_of_ble_eq_true rfl), (Nat.le_of_ble_eq_true rfl)⟩) (va_recv hK hP (ci := 6) (q0 := 0) rfl rfl) rfl hl.1 (lv_room (Nat.le_of_ble_eq_true rfl)) dL_law_325 ⟨(by show _ ≤ 604962; omega), (by show _ ≤ 7286739; omega)⟩ hS hA rfl (fun locs hS => ?_)
  refine lv_topi (fun y ey => ?_)
  obtain rfl : y = 2 := ey.trans (by rw [(m3 hn hs ha hd2 had hB16 hC16), (m2d hn ha hd2 had hB16 hB0 hC16 hC0)])
  refine lv_iconst (v := 2) hx hb dL_law_328 (by decide) ?_
  refine lv_icmp_ne (tgt := 336) hx hb dL_law_329 (by decide) (fun c_329 => absurd c_329 (by decide)) (fun c_329 => ?_)
  refine lv_iconst (v := 1) hx hb dL_law_332 (by decide) ?_
  refine lv_goto (tgt := 337) hx hb dL_law_333 (by decide) ?_
  refine lv_iand hx hb dL_law_337 ?_
  refine lv_istore_n (lv' := [(2, .int 1), (15, .int (nI (2 ^ a ||| 2 ^ d2))), (13, .long (lN (wN V ^^^ (bp B a ^^^ bp C d2)))), (11, .long (lN (wN V ^^^ bp B a))), (10, .int (nI C)), (9, .int (nI B)), (8, .int (nI d2)), (7, .int (nI a)), (5, .long (lN (wN V))), (4, .int (nI V)), (0, .ref b), (1, .ref (v 0)), (3, .int (nI k))]) hx hb dL_law_338 rfl hl (by decide) rfl (fun ls hl => ?_)
  refine lv_aload_n hx hb dL_law_339 rfl (lv_at hl 10 rfl) ?_
  refine lv_bipush (v := 50) hx hb dL_law_340 (by decide) ?_
  refine lv_iload_n hx hb dL_law_342 rfl (lv_at hl 12 rfl) ?_
  refine lv_iadd hx hb dL_law_343 ?_
  refine lv_topi (fun y ey => ?_)
  obtain rfl : y = nI (50 + k) := ey.trans (nI_add 50 k)
  refine lv_bipush (v := 8) hx hb dL_law_344 (by decide) ?_
  refine sc_calli (As := [.ref b, .int (nI (50 + k)), .int 8]) (rest := []) ⟨hx, hb, hml, hown, htl⟩ (c_L_in l b L (50 + k) hL (by omega) xs 8 (by decide)) (va_cwS 3 htl gL_law_L_in rfl rfl rfl (by decide +kernel) ⟨(Nat.le_of_ble_eq_true rfl), (Nat.le_of_ble_eq_true rfl)⟩) rfl hl.1 (lv_room (Nat.le_of_ble_eq_true rfl)) dL_law_346 ⟨(by show _ ≤ 604962; omega), (by show _ ≤ 7286739; omega)⟩ hS hA rfl (hX.kept (hS.2.1 b hbl hbA)) (Nat.lt_of_lt_of_le hbl hS.1) (fun locs hS => ?_)
  obtain ⟨c3, hc3, ec3⟩ := gIn_lt L xs (50 + k) (N := 8) (by decide) (by decide)
  refine lv_topi (fun y ey => ?_)
  obtain rfl : y = nI c3 := ey.trans (ec3)
  refine lv_istore (lv' := [(16, .int (nI c3)), (2, .int 1), (15, .int (nI (2 ^ a ||| 2 ^ d2))), (13, .long (lN (wN V ^^^ (bp B a ^^^ bp C d2)))), (11, .long (lN (wN V ^^^ bp B a))), (10, .int (nI C)), (9, .int (nI B)), (8, .int (nI d2)), (7, .int (nI a)), (5, .long (lN (wN V))), (4, .int (nI V)), (0, .ref b), (1, .ref (v 0)), (3, .int (nI k))]) hx hb dL_law_349 hl (by decide) rfl (fun ls hl => ?_)
  refine lv_iconst (v := 1) hx hb dL_law_351 (by decide) ?_
  refine lv_aload_n hx hb dL_law_352 rfl (lv_at hl 11 rfl) ?_
  refine lv_bipush (v := 60) hx hb dL_law_353 (by decide) ?_
  refine lv_iload_n hx hb dL_law_355 rfl (lv_at hl 13 rfl) ?_
  refine lv_iadd hx hb dL_law_356 ?_
  refine lv_topi (fun y ey => ?_)
  obtain rfl : y = nI (60 + k) := ey.trans (nI_add 60 k)
  refine lv_bipush (v := 15) hx hb dL_law_357 (by decide) ?_
  refine sc_calli (As := [.ref b, .int (nI (60 + k)), .int 15]) (rest := [.int 1]) ⟨hx, hb, hml, hown, htl⟩ (c_L_in l b L (60 + k) hL (by omega) xs 15 (by decide)) (va_cwS 3 htl gL_law_L_in rfl rfl rfl (by decide +kernel) ⟨(Nat.le_of_ble_eq_true rfl), (Nat.le_of_ble_eq_true rfl)⟩) rfl hl.1 (lv_room (Nat.le_of_ble_eq_true rfl)) dL_law_359 ⟨(by show _ ≤ 604962; omega), (by show _ ≤ 7286739; omega)⟩ hS hA rfl (hX.kept (hS.2.1 b hbl hbA)) (Nat.lt_of_lt_of_le hbl hS.1) (fun locs hS => ?_)
  obtain ⟨j3, hj3, ej3⟩ := gIn_lt L xs (60 + k) (N := 15) (by decide) (by decide)
  refine lv_topi (fun y ey => ?_)
  obtain rfl : y = nI j3 := ey.trans (ej3)
  refine lv_iadd hx hb dL_law_362 ?_
  obtain ⟨D, eD⟩ : ∃ D, D = 1 + j3 := ⟨_, rfl⟩
  have hD16 : D < 16 := by omega
  have hD0 : D ≠ 0 := by omega
  refine lv_topi (fun y ey => ?_)
  obtain rfl : y = nI D := ey.trans ((nI_add 1 j3).trans (congrArg nI eD.symm))
  refine lv_istore (lv' := [(17, .int (nI D)), (16, .int (nI c3)), (2, .int 1), (15, .int (nI (2 ^ a ||| 2 ^ d2))), (13, .long (lN (wN V ^^^ (bp B a ^^^ bp C d2)))), (11, .long (lN (wN V ^^^ bp B a))), (10, .int (nI C)), (9, .int (nI B)), (8, .int (nI d2)), (7, .int (nI a)), (5, .long (lN (wN V))), (4, .int (nI V)), (0, .ref b), (1, .ref (v 0)), (3, .int (nI k))]) hx hb dL_law_363 hl (by decide) rfl (fun ls hl => ?_)
  refine lv_iload hx hb dL_law_365 (lv_at hl 1 rfl) ?_
  refine lv_iload hx hb dL_law_367 (lv_at hl 9 rfl) ?_
  refine lv_icmp_eq (tgt := 582) hx hb dL_law_369 (by decide) (fun c_369 => ?_) (fun c_369 => ?_)
  · refine W.widen (k := 60 + 10 * k + 4) (n := 700 + 60 * k + 24) (by omega) (by omega) ?_
    exact law_tail l hL C0 CC hk hV next _ _ ls hP hD hS (lv_sub hl [12, 13, 2, 14, 10] rfl)
  · refine lv_iload hx hb dL_law_372 (lv_at hl 1 rfl) ?_
    refine lv_iload hx hb dL_law_374 (lv_at hl 8 rfl) ?_
    refine lv_icmp_eq (tgt := 582) hx hb dL_law_376 (by decide) (fun c_376 => ?_) (fun c_376 => ?_)
    · refine W.widen (k := 60 + 10 * k + 4) (n := 700 + 60 * k + 24) (by omega) (by omega) ?_
      exact law_tail l hL C0 CC hk hV next _ _ ls hP hD hS (lv_sub hl [12, 13, 2, 14, 10] rfl)
    · have hca : c3 ≠ a := fun z => c_369 (congrArg nI z)
      have hcd : c3 ≠ d2 := fun z => c_376 (congrArg nI z)
      refine lv_lload hx hb dL_law_379 (lv_at hl 4 rfl) ?_
      refine lv_iload hx hb dL_law_381 (lv_at hl 0 rfl) ?_
      refine lv_i2l hx hb dL_law_383 rfl ?_
      refine lv_iconst (v := 4) hx hb dL_law_384 (by decide) ?_
      refine lv_iload hx hb dL_law_385 (lv_at hl 1 rfl) ?_
      refine lv_imul hx hb dL_law_387 ?_
      refine lv_lshl hx hb dL_law_388 rfl ?_
      refine lv_lxor hx hb dL_law_389 ?_
      refine lv_topl (fun y ey => ?_)
      obtain rfl : y = lN (wN V ^^^ (bp B a ^^^ bp C d2 ^^^ bp D c3)) := ey.trans ((lTurn hc3 hD16).trans (congrArg lN (Nat.xor_assoc _ _ _)))
      refine lv_lstore (lv' := [(18, .long (lN (wN V ^^^ (bp B a ^^^ bp C d2 ^^^ bp D c3)))), (17, .int (nI D)), (16, .int (nI c3)), (2, .int 1), (15, .int (nI (2 ^ a ||| 2 ^ d2))), (13, .long (lN (wN V ^^^ (bp B a ^^^ bp C d2)))), (11, .long (lN (wN V ^^^ bp B a))), (10, .int (nI C)), (9, .int (nI B)), (8, .int (nI d2)), (7, .int (nI a)), (5, .long (lN (wN V))), (4, .int (nI V)), (0, .ref b), (1, .ref (v 0)), (3, .int (nI k))]) hx hb dL_law_390 hl (by decide) rfl (fun ls hl => ?_)
      refine lv_iload_n hx hb dL_law_392 rfl (lv_at hl 3 rfl) ?_
      refine lv_aload_n hx hb dL_law_393 rfl (lv_at hl 14 rfl) ?_
      refine lv_lload hx hb dL_law_394 (lv_at hl 0 rfl) ?_
      refine lv_iload hx hb dL_law_396 (lv_at hl 4 rfl) ?_
      refine lo_calli (As := [.ref (v 0), .long (lN (wN V ^^^ (bp B a ^^^ bp C d2 ^^^ bp D c3))), .int (nI (2 ^ a ||| 2 ^ d2))]) (rest := [.int 1]) ⟨hx, hb, hml, hown, htl⟩ (c_L_mend l (v 0) (lN (wN V ^^^ (bp B a ^^^ bp C d2 ^^^ bp D c3))) (nI (2 ^ a ||| 2 ^ d2)) (lN_nn (x32 hn (e3_32 ha hd2 hc3 hB16 hC16 hD16))) (lN_top (x32 hn (e3_32 ha hd2 hc3 hB16 hC16 hD16))) (nI_lnn (Nat.lt_trans (or256 (p256 ha) (p256 hd2)) (by decide))) (nI_ltop (M := 255) (Nat.le_of_lt_succ (or256 (p256 ha) (p256 hd2))) (by decide)) (by rw [(m4 hn hs ha hd2 hc3 had hca hcd hB16 hB0 hC16 hC0 hD16 hD0).1]; exact lN_ne1 hn)) (vx_cwSW 3 htl gL_law_L_mend rfl rfl rfl (by decide +kernel) ⟨(Nat.le_of_ble_eq_true rfl), (Nat.le_of_ble_eq_true rfl)⟩) (va_recv hK hP (ci := 6) (q0 := 0) rfl rfl) rfl hl.1 (lv_room (Nat.le_of_ble_eq_true rfl)) dL_law_398 ⟨(by show _ ≤ 604962; omega), (by show _ ≤ 7286739; omega)⟩ hS hA rfl (fun locs hS => ?_)
      refine lv_topi (fun y ey => ?_)
      obtain rfl : y = nI V := ey.trans (by rw [(m4 hn hs ha hd2 hc3 had hca hcd hB16 hB0 hC16 hC0 hD16 hD0).1, wVal hV])
      refine lv_iload hx hb dL_law_401 (lv_at hl 12 rfl) ?_
      refine lv_icmp_ne (tgt := 422) hx hb dL_law_403 (by decide) (fun c_403 => absurd c_403 (fun h => h rfl)) (fun c_403 => ?_)
      refine lv_aload_n hx hb dL_law_406 rfl (lv_at hl 14 rfl) ?_
      refine lv_lload hx hb dL_law_407 (lv_at hl 0 rfl) ?_
      refine lv_iload hx hb dL_law_409 (lv_at hl 4 rfl) ?_
      refine lo_calli (As := [.ref (v 0), .long (lN (wN V ^^^ (bp B a ^^^ bp C d2 ^^^ bp D c3))), .int (nI (2 ^ a ||| 2 ^ d2))]) (rest := [.int 1]) ⟨hx, hb, hml, hown, htl⟩ (c_L_mended l (v 0) (lN (wN V ^^^ (bp B a ^^^ bp C d2 ^^^ bp D c3))) (nI (2 ^ a ||| 2 ^ d2)) (lN_nn (x32 hn (e3_32 ha hd2 hc3 hB16 hC16 hD16))) (lN_top (x32 hn (e3_32 ha hd2 hc3 hB16 hC16 hD16))) (nI_lnn (Nat.lt_trans (or256 (p256 ha) (p256 hd2)) (by decide))) (nI_ltop (M := 255) (Nat.le_of_lt_succ (or256 (p256 ha) (p256 hd2))) (by decide)) (by rw [(m4 hn hs ha hd2 hc3 had hca hcd hB16 hB0 hC16 hC0 hD16 hD0).1]; exact lN_ne1 hn)) (vx_cwSW 3 htl gL_law_L_mended rfl rfl rfl (by decide +kernel) ⟨(Nat.le_of_ble_eq_true rfl), (Nat.le_of_ble_eq_true rfl)⟩) (va_recv hK hP (ci := 6) (q0 := 0) rfl rfl) rfl hl.1 (lv_room (Nat.le_of_ble_eq_true rfl)) dL_law_411 ⟨(by show _ ≤ 604962; omega), (by show _ ≤ 7286739; omega)⟩ hS hA rfl (fun locs hS => ?_)
      refine lv_topi (fun y ey => ?_)
      obtain rfl : y = 3 := ey.trans (by rw [(m4 hn hs ha hd2 hc3 had hca hcd hB16 hB0 hC16 hC0 hD16 hD0).1, (m4 hn hs ha hd2 hc3 had hca hcd hB16 hB0 hC16 hC0 hD16 hD0).2])
      refine lv_iconst (v := 3) hx hb dL_law_414 (by decide) ?_
      refine lv_icmp_ne (tgt := 422) hx hb dL_law_415 (by decide) (fun c_415 => absurd c_415 (by decide)) (fun c_415 => ?_)
      refine lv_iconst (v := 1) hx hb dL_law_418 (by decide) ?_
      refine lv_goto (tgt := 423) hx hb dL_law_419 (by decide) ?_
      refine lv_iand hx hb dL_law_423 ?_
      refine lv_istore_n (lv' := [(2, .int 1), (18, .long (lN (wN V ^^^ (bp B a ^^^ bp C d2 ^^^ bp D c3)))), (17, .int (nI D)), (16, .int (nI c3)), (15, .int (nI (2 ^ a ||| 2 ^ d2))), (13, .long (lN (wN V ^^^ (bp B a ^^^ bp C d2)))), (11, .long (lN (wN V ^^^ bp B a))), (10, .int (nI C)), (9, .int (nI B)), (8, .int (nI d2)), (7, .int (nI a)), (5, .long (lN (wN V))), (4, .int (nI V)), (0, .ref b), (1, .ref (v 0)), (3, .int (nI k))]) hx hb dL_law_424 rfl hl (by decide) rfl (fun ls hl => ?_)
      refine lv_aload_n hx hb dL_law_425 rfl (lv_at hl 13 rfl) ?_
      refine lv_bipush (v := 70) hx hb dL_law_426 (by decide) ?_
      refine lv_iload_n hx hb dL_law_428 rfl (lv_at hl 15 rfl) ?_
      refine lv_iadd hx hb dL_law_429 ?_
      refine lv_topi (fun y ey => ?_)
      obtain rfl : y = nI (70 + k) := ey.trans (nI_add 70 k)
      refine lv_bipush (v := 8) hx hb dL_law_430 (by decide) ?_
      refine sc_calli (As := [.ref b, .int (nI (70 + k)), .int 8]) (rest := []) ⟨hx, hb, hml, hown, htl⟩ (c_L_in l b L (70 + k) hL (by omega) xs 8 (by decide)) (va_cwS 3 htl gL_law_L_in rfl rfl rfl (by decide +kernel) ⟨(Nat.le_of_ble_eq_true rfl), (Nat.le_of_ble_eq_true rfl)⟩) rfl hl.1 (lv_room (Nat.le_of_ble_eq_true rfl)) dL_law_432 ⟨(by show _ ≤ 604962; omega), (by show _ ≤ 7286739; omega)⟩ hS hA rfl (hX.kept (hS.2.1 b hbl hbA)) (Nat.lt_of_lt_of_le hbl hS.1) (fun locs hS => ?_)
      obtain ⟨d4, hd4, ed4⟩ := gIn_lt L xs (70 + k) (N := 8) (by decide) (by decide)
      refine lv_topi (fun y ey => ?_)
      obtain rfl : y = nI d4 := ey.trans (ed4)
      refine lv_istore (lv' := [(20, .int (nI d4)), (2, .int 1), (18, .long (lN (wN V ^^^ (bp B a ^^^ bp C d2 ^^^ bp D c3)))), (17, .int (nI D)), (16, .int (nI c3)), (15, .int (nI (2 ^ a ||| 2 ^ d2))), (13, .long (lN (wN V ^^^ (bp B a ^^^ bp C d2)))), (11, .long (lN (wN V ^^^ bp B a))), (10, .int (nI C)), (9, .int (nI B)), (8, .int (nI d2)), (7, .int (nI a)), (5, .long (lN (wN V))), (4, .int (nI V)), (0, .ref b), (1, .ref (v 0)), (3, .int (nI k))]) hx hb dL_law_435 hl (by decide) rfl (fun ls hl => ?_)
      refine lv_iload hx hb dL_law_437 (lv_at hl 5 rfl) ?_
      refine lv_iload hx hb dL_law_439 (lv_at hl 0 rfl) ?_
      refine lv_ishr hx hb dL_law_441 ?_
      refine lv_iconst (v := 1) hx hb dL_law_442 (by decide) ?_
      refine lv_iand hx hb dL_law_443 ?_
      refine lv_if_ne (tgt := 520) hx hb dL_law_444 (by decide) (fun c_444 => ?_) (fun c_444 => ?_)
      · refine lv_iconst (v := 1) hx hb dL_law_520 (by decide) ?_
        refine lv_iload hx hb dL_law_521 (lv_at hl 4 rfl) ?_
        refine lv_ishl hx hb dL_law_523 ?_
        refine lv_topi (fun y ey => ?_)
        obtain rfl : y = nI (2 ^ c3) := ey.trans (cOne c3 hc3)
        refine lv_istore (lv' := [(21, .int (nI (2 ^ c3))), (20, .int (nI d4)), (2, .int 1), (18, .long (lN (wN V ^^^ (bp B a ^^^ bp C d2 ^^^ bp D c3)))), (17, .int (nI D)), (16, .int (nI c3)), (15, .int (nI (2 ^ a ||| 2 ^ d2))), (13, .long (lN (wN V ^^^ (bp B a ^^^ bp C d2)))), (11, .long (lN (wN V ^^^ bp B a))), (10, .int (nI C)), (9, .int (nI B)), (8, .int (nI d2)), (7, .int (nI a)), (5, .long (lN (wN V))), (4, .int (nI V)), (0, .ref b), (1, .ref (v 0)), (3, .int (nI k))]) hx hb dL_law_524 hl (by decide) rfl (fun ls hl => ?_)
        refine lv_aload_n hx hb dL_law_526 rfl (lv_at hl 16 rfl) ?_
        refine lv_lload hx hb dL_law_527 (lv_at hl 3 rfl) ?_
        refine lv_iload hx hb dL_law_529 (lv_at hl 0 rfl) ?_
        refine lx_calli (As := [.ref (v 0), .long (lN (wN V ^^^ (bp B a ^^^ bp C d2 ^^^ bp D c3))), .int (nI (2 ^ c3))]) (rest := []) ⟨hx, hb, hml, hown, htl⟩ (x_L_mend_3 l hstk (v 0) (lN (wN V ^^^ (bp B a ^^^ bp C d2 ^^^ bp D c3))) (nI (2 ^ c3)) (lN_nn (x32 hn (e3_32 ha hd2 hc3 hB16 hC16 hD16))) (lN_top (x32 hn (e3_32 ha hd2 hc3 hB16 hC16 hD16))) (nI_lnn (Nat.lt_trans (p256 hc3) (by decide))) (nI_ltop (M := 255) (Nat.le_of_lt_succ (p256 hc3)) (by decide)) (m6 hn hs ha hd2 hc3 had hca hcd hB16 hB0 hC16 hC0 hD16)) (vx_cwSW 3 htl gL_law_L_mend rfl rfl rfl (by decide +kernel) ⟨(Nat.le_of_ble_eq_true rfl), (Nat.le_of_ble_eq_true rfl)⟩) (va_recv hK hP (ci := 6) (q0 := 0) rfl rfl) rfl hl.1 (lv_room (Nat.le_of_ble_eq_true rfl)) dL_law_531 ⟨(by show _ ≤ 604962; omega), (by show _ ≤ 7286739; omega)⟩ hS rfl hxN hNc (fun H1 locs hkeep hS => ?_)
        have hP := hP.kept (fun k q hk => hkeep q.1 ((hP k q hk).lt))
        refine lv_istore (lv' := [(22, .int (-900002)), (21, .int (nI (2 ^ c3))), (20, .int (nI d4)), (2, .int 1), (18, .long (lN (wN V ^^^ (bp B a ^^^ bp C d2 ^^^ bp D c3)))), (17, .int (nI D)), (16, .int (nI c3)), (15, .int (nI (2 ^ a ||| 2 ^ d2))), (13, .long (lN (wN V ^^^ (bp B a ^^^ bp C d2)))), (11, .long (lN (wN V ^^^ bp B a))), (10, .int (nI C)), (9, .int (nI B)), (8, .int (nI d2)), (7, .int (nI a)), (5, .long (lN (wN V))), (4, .int (nI V)), (0, .ref b), (1, .ref (v 0)), (3, .int (nI k))]) hx hb dL_law_534 hl (by decide) rfl (fun ls hl => ?_)
        refine lv_iload_n hx hb dL_law_536 rfl (lv_at hl 3 rfl) ?_
        refine lv_iload hx hb dL_law_537 (lv_at hl 0 rfl) ?_
        refine lv_ldc (v := (-900002)) hx hb hown (hts (.constant RL 26 (-900002)) (by decide +kernel)) dL_law_539 ?_
        refine lv_icmp_eq (tgt := 575) hx hb dL_law_541 (by decide) (fun c_541 => ?_) (fun c_541 => absurd c_541 (by decide))
        refine lv_iconst (v := 1) hx hb dL_law_575 (by decide) ?_
        refine lv_goto (tgt := 580) hx hb dL_law_576 (by decide) ?_
        refine lv_iand hx hb dL_law_580 ?_
        refine lv_istore_n (lv' := [(2, .int 1), (22, .int (-900002)), (21, .int (nI (2 ^ c3))), (20, .int (nI d4)), (18, .long (lN (wN V ^^^ (bp B a ^^^ bp C d2 ^^^ bp D c3)))), (17, .int (nI D)), (16, .int (nI c3)), (15, .int (nI (2 ^ a ||| 2 ^ d2))), (13, .long (lN (wN V ^^^ (bp B a ^^^ bp C d2)))), (11, .long (lN (wN V ^^^ bp B a))), (10, .int (nI C)), (9, .int (nI B)), (8, .int (nI d2)), (7, .int (nI a)), (5, .long (lN (wN V))), (4, .int (nI V)), (0, .ref b), (1, .ref (v 0)), (3, .int (nI k))]) hx hb dL_law_581 rfl hl (by decide) rfl (fun ls hl => ?_)
        refine W.widen (k := 60 + 10 * k + 4) (n := 700 + 60 * k + 24) (by omega) (by omega) ?_
        exact law_tail l hL C0 CC hk hV next _ _ ls hP hD hS (lv_sub hl [16, 17, 0, 18, 14] rfl)
      · refine lv_iload hx hb dL_law_447 (lv_at hl 0 rfl) ?_
        refine lv_iload hx hb dL_law_449 (lv_at hl 4 rfl) ?_
        refine lv_icmp_eq (tgt := 520) hx hb dL_law_451 (by decide) (fun c_451 => ?_) (fun c_451 => ?_)
        · refine lv_iconst (v := 1) hx hb dL_law_520 (by decide) ?_
          refine lv_iload hx hb dL_law_521 (lv_at hl 4 rfl) ?_
          refine lv_ishl hx hb dL_law_523 ?_
          refine lv_topi (fun y ey => ?_)
          obtain rfl : y = nI (2 ^ c3) := ey.trans (cOne c3 hc3)
          refine lv_istore (lv' := [(21, .int (nI (2 ^ c3))), (20, .int (nI d4)), (2, .int 1), (18, .long (lN (wN V ^^^ (bp B a ^^^ bp C d2 ^^^ bp D c3)))), (17, .int (nI D)), (16, .int (nI c3)), (15, .int (nI (2 ^ a ||| 2 ^ d2))), (13, .long (lN (wN V ^^^ (bp B a ^^^ bp C d2)))), (11, .long (lN (wN V ^^^ bp B a))), (10, .int (nI C)), (9, .int (nI B)), (8, .int (nI d2)), (7, .int (nI a)), (5, .long (lN (wN V))), (4, .int (nI V)), (0, .ref b), (1, .ref (v 0)), (3, .int (nI k))]) hx hb dL_law_524 hl (by decide) rfl (fun ls hl => ?_)
          refine lv_aload_n hx hb dL_law_526 rfl (lv_at hl 16 rfl) ?_
          refine lv_lload hx hb dL_law_527 (lv_at hl 3 rfl) ?_
          refine lv_iload hx hb dL_law_529 (lv_at hl 0 rfl) ?_
          refine lx_calli (As := [.ref (v 0), .long (lN (wN V ^^^ (bp B a ^^^ bp C d2 ^^^ bp D c3))), .int (nI (2 ^ c3))]) (rest := []) ⟨hx, hb, hml, hown, htl⟩ (x_L_mend_3 l hstk (v 0) (lN (wN V ^^^ (bp B a ^^^ bp C d2 ^^^ bp D c3))) (nI (2 ^ c3)) (lN_nn (x32 hn (e3_32 ha hd2 hc3 hB16 hC16 hD16))) (lN_top (x32 hn (e3_32 ha hd2 hc3 hB16 hC16 hD16))) (nI_lnn (Nat.lt_trans (p256 hc3) (by decide))) (nI_ltop (M := 255) (Nat.le_of_lt_succ (p256 hc3)) (by decide)) (m6 hn hs ha hd2 hc3 had hca hcd hB16 hB0 hC16 hC0 hD16)) (vx_cwSW 3 htl gL_law_L_mend rfl rfl rfl (by decide +kernel) ⟨(Nat.le_of_ble_eq_true rfl), (Nat.le_of_ble_eq_true rfl)⟩) (va_recv hK hP (ci := 6) (q0 := 0) rfl rfl) rfl hl.1 (lv_room (Nat.le_of_ble_eq_true rfl)) dL_law_531 ⟨(by show _ ≤ 604962; omega), (by show _ ≤ 7286739; omega)⟩ hS rfl hxN hNc (fun H1 locs hkeep hS => ?_)
          have hP := hP.kept (fun k q hk => hkeep q.1 ((hP k q hk).lt))
          refine lv_istore (lv' := [(22, .int (-900002)), (21, .int (nI (2 ^ c3))), (20, .int (nI d4)), (2, .int 1), (18, .long (lN (wN V ^^^ (bp B a ^^^ bp C d2 ^^^ bp D c3)))), (17, .int (nI D)), (16, .int (nI c3)), (15, .int (nI (2 ^ a ||| 2 ^ d2))), (13, .long (lN (wN V ^^^ (bp B a ^^^ bp C d2)))), (11, .long (lN (wN V ^^^ bp B a))), (10, .int (nI C)), (9, .int (nI B)), (8, .int (nI d2)), (7, .int (nI a)), (5, .long (lN (wN V))), (4, .int (nI V)), (0, .ref b), (1, .ref (v 0)), (3, .int (nI k))]) hx hb dL_law_534 hl (by decide) rfl (fun ls hl => ?_)
          refine lv_iload_n hx hb dL_law_536 rfl (lv_at hl 3 rfl) ?_
          refine lv_iload hx hb dL_law_537 (lv_at hl 0 rfl) ?_
          refine lv_ldc (v := (-900002)) hx hb hown (hts (.constant RL 26 (-900002)) (by decide +kernel)) dL_law_539 ?_
          refine lv_icmp_eq (tgt := 575) hx hb dL_law_541 (by decide) (fun c_541 => ?_) (fun c_541 => absurd c_541 (by decide))
          refine lv_iconst (v := 1) hx hb dL_law_575 (by decide) ?_
          refine lv_goto (tgt := 580) hx hb dL_law_576 (by decide) ?_
          refine lv_iand hx hb dL_law_580 ?_
          refine lv_istore_n (lv' := [(2, .int 1), (22, .int (-900002)), (21, .int (nI (2 ^ c3))), (20, .int (nI d4)), (18, .long (lN (wN V ^^^ (bp B a ^^^ bp C d2 ^^^ bp D c3)))), (17, .int (nI D)), (16, .int (nI c3)), (15, .int (nI (2 ^ a ||| 2 ^ d2))), (13, .long (lN (wN V ^^^ (bp B a ^^^ bp C d2)))), (11, .long (lN (wN V ^^^ bp B a))), (10, .int (nI C)), (9, .int (nI B)), (8, .int (nI d2)), (7, .int (nI a)), (5, .long (lN (wN V))), (4, .int (nI V)), (0, .ref b), (1, .ref (v 0)), (3, .int (nI k))]) hx hb dL_law_581 rfl hl (by decide) rfl (fun ls hl => ?_)
          refine W.widen (k := 60 + 10 * k + 4) (n := 700 + 60 * k + 24) (by omega) (by omega) ?_
          exact law_tail l hL C0 CC hk hV next _ _ ls hP hD hS (lv_sub hl [16, 17, 0, 18, 14] rfl)
        · have hdc : d4 ≠ c3 := fun z => c_451 (congrArg nI z)
          have hwk := wkNo (or256 (p256 ha) (p256 hd2)) hd4 c_444
          rw [tb2, Bool.or_eq_false_iff] at hwk
          have hda : d4 ≠ a := fun z => of_decide_eq_false hwk.1 z.symm
          have hdd : d4 ≠ d2 := fun z => of_decide_eq_false hwk.2 z.symm
          refine lv_lload hx hb dL_law_454 (lv_at hl 2 rfl) ?_
          refine lv_ldc2 (v := 5) hx hb hown (hts (.constantLong RL 80 5) (by decide +kernel)) dL_law_456 ?_
          refine lv_iconst (v := 4) hx hb dL_law_459 (by decide) ?_
          refine lv_iload hx hb dL_law_460 (lv_at hl 0 rfl) ?_
          refine lv_imul hx hb dL_law_462 ?_
          refine lv_lshl hx hb dL_law_463 rfl ?_
          refine lv_lxor hx hb dL_law_464 ?_
          refine lv_topl (fun y ey => ?_)
          obtain rfl : y = lN (wN V ^^^ (bp B a ^^^ bp C d2 ^^^ bp D c3 ^^^ bp 5 d4)) := ey.trans ((lTurn5 hd4).trans (congrArg lN (Nat.xor_assoc _ _ _)))
          refine lv_lstore (lv' := [(21, .long (lN (wN V ^^^ (bp B a ^^^ bp C d2 ^^^ bp D c3 ^^^ bp 5 d4)))), (20, .int (nI d4)), (2, .int 1), (18, .long (lN (wN V ^^^ (bp B a ^^^ bp C d2 ^^^ bp D c3)))), (17, .int (nI D)), (16, .int (nI c3)), (15, .int (nI (2 ^ a ||| 2 ^ d2))), (13, .long (lN (wN V ^^^ (bp B a ^^^ bp C d2)))), (11, .long (lN (wN V ^^^ bp B a))), (10, .int (nI C)), (9, .int (nI B)), (8, .int (nI d2)), (7, .int (nI a)), (5, .long (lN (wN V))), (4, .int (nI V)), (0, .ref b), (1, .ref (v 0)), (3, .int (nI k))]) hx hb dL_law_465 hl (by decide) rfl (fun ls hl => ?_)
          refine lv_iload_n hx hb dL_law_467 rfl (lv_at hl 2 rfl) ?_
          refine lv_aload_n hx hb dL_law_468 rfl (lv_at hl 16 rfl) ?_
          refine lv_lload hx hb dL_law_469 (lv_at hl 0 rfl) ?_
          refine lv_iload hx hb dL_law_471 (lv_at hl 6 rfl) ?_
          refine lv_iconst (v := 1) hx hb dL_law_473 (by decide) ?_
          refine lv_iload hx hb dL_law_474 (lv_at hl 5 rfl) ?_
          refine lv_ishl hx hb dL_law_476 ?_
          refine lv_ior hx hb dL_law_477 ?_
          refine lv_iconst (v := 1) hx hb dL_law_478 (by decide) ?_
          refine lv_iload hx hb dL_law_479 (lv_at hl 1 rfl) ?_
          refine lv_ishl hx hb dL_law_481 ?_
          refine lv_ior hx hb dL_law_482 ?_
          refine lv_topi (fun y ey => ?_)
          obtain rfl : y = nI (2 ^ a ||| 2 ^ d2 ||| 2 ^ c3 ||| 2 ^ d4) := ey.trans (by rw [cOne c3 hc3, cOne d4 hd4, fa_or, fa_or])
          refine lo_calli (As := [.ref (v 0), .long (lN (wN V ^^^ (bp B a ^^^ bp C d2 ^^^ bp D c3 ^^^ bp 5 d4))), .int (nI (2 ^ a ||| 2 ^ d2 ||| 2 ^ c3 ||| 2 ^ d4))]) (rest := [.int 1]) ⟨hx, hb, hml, hown, htl⟩ (c_L_mend l (v 0) (lN (wN V ^^^ (bp B a ^^^ bp C d2 ^^^ bp D c3 ^^^ bp 5 d4))) (nI (2 ^ a ||| 2 ^ d2 ||| 2 ^ c3 ||| 2 ^ d4)) (lN_nn (x32 hn (x32 (e3_32 ha hd2 hc3 hB16 hC16 hD16) (bp32 (by decide) hd4)))) (lN_top (x32 hn (x32 (e3_32 ha hd2 hc3 hB16 hC16 hD16) (bp32 (by decide) hd4)))) (nI_lnn (Nat.lt_trans (or256 (or256 (or256 (p256 ha) (p256 hd2)) (p256 hc3)) (p256 hd4)) (by decide))) (nI_ltop (M := 255) (Nat.le_of_lt_succ (or256 (or256 (or256 (p256 ha) (p256 hd2)) (p256 hc3)) (p256 hd4))) (by decide)) (by rw [(m5 hn hs ha hd2 hc3 hd4 had hca hcd hda hdd hdc hB16 hB0 hC16 hC0 hD16 hD0 (by decide) (by decide)).1]; exact lN_ne1 hn)) (vx_cwSW 3 htl gL_law_L_mend rfl rfl rfl (by decide +kernel) ⟨(Nat.le_of_ble_eq_true rfl), (Nat.le_of_ble_eq_true rfl)⟩) (va_recv hK hP (ci := 6) (q0 := 0) rfl rfl) rfl hl.1 (lv_room (Nat.le_of_ble_eq_true rfl)) dL_law_483 ⟨(by show _ ≤ 604962; omega), (by show _ ≤ 7286739; omega)⟩ hS hA rfl (fun locs hS => ?_)
          refine lv_topi (fun y ey => ?_)
          obtain rfl : y = nI V := ey.trans (by rw [(m5 hn hs ha hd2 hc3 hd4 had hca hcd hda hdd hdc hB16 hB0 hC16 hC0 hD16 hD0 (by decide) (by decide)).1, wVal hV])
          refine lv_iload hx hb dL_law_486 (lv_at hl 14 rfl) ?_
          refine lv_icmp_ne (tgt := 517) hx hb dL_law_488 (by decide) (fun c_488 => absurd c_488 (fun h => h rfl)) (fun c_488 => ?_)
          refine lv_aload_n hx hb dL_law_491 rfl (lv_at hl 16 rfl) ?_
          refine lv_lload hx hb dL_law_492 (lv_at hl 0 rfl) ?_
          refine lv_iload hx hb dL_law_494 (lv_at hl 6 rfl) ?_
          refine lv_iconst (v := 1) hx hb dL_law_496 (by decide) ?_
          refine lv_iload hx hb dL_law_497 (lv_at hl 5 rfl) ?_
          refine lv_ishl hx hb dL_law_499 ?_
          refine lv_ior hx hb dL_law_500 ?_
          refine lv_iconst (v := 1) hx hb dL_law_501 (by decide) ?_
          refine lv_iload hx hb dL_law_502 (lv_at hl 1 rfl) ?_
          refine lv_ishl hx hb dL_law_504 ?_
          refine lv_ior hx hb dL_law_505 ?_
          refine lv_topi (fun y ey => ?_)
          obtain rfl : y = nI (2 ^ a ||| 2 ^ d2 ||| 2 ^ c3 ||| 2 ^ d4) := ey.trans (by rw [cOne c3 hc3, cOne d4 hd4, fa_or, fa_or])
          refine lo_calli (As := [.ref (v 0), .long (lN (wN V ^^^ (bp B a ^^^ bp C d2 ^^^ bp D c3 ^^^ bp 5 d4))), .int (nI (2 ^ a ||| 2 ^ d2 ||| 2 ^ c3 ||| 2 ^ d4))]) (rest := [.int 1]) ⟨hx, hb, hml, hown, htl⟩ (c_L_mended l (v 0) (lN (wN V ^^^ (bp B a ^^^ bp C d2 ^^^ bp D c3 ^^^ bp 5 d4))) (nI (2 ^ a ||| 2 ^ d2 ||| 2 ^ c3 ||| 2 ^ d4)) (lN_nn (x32 hn (x32 (e3_32 ha hd2 hc3 hB16 hC16 hD16) (bp32 (by decide) hd4)))) (lN_top (x32 hn (x32 (e3_32 ha hd2 hc3 hB16 hC16 hD16) (bp32 (by decide) hd4)))) (nI_lnn (Nat.lt_trans (or256 (or256 (or256 (p256 ha) (p256 hd2)) (p256 hc3)) (p256 hd4)) (by decide))) (nI_ltop (M := 255) (Nat.le_of_lt_succ (or256 (or256 (or256 (p256 ha) (p256 hd2)) (p256 hc3)) (p256 hd4))) (by decide)) (by rw [(m5 hn hs ha hd2 hc3 hd4 had hca hcd hda hdd hdc hB16 hB0 hC16 hC0 hD16 hD0 (by decide) (by decide)).1]; exact lN_ne1 hn)) (vx_cwSW 3 htl gL_law_L_mended rfl rfl rfl (by decide +kernel) ⟨(Nat.le_of_ble_eq_true rfl), (Nat.le_of_ble_eq_true rfl)⟩) (va_recv hK hP (ci := 6) (q0 := 0) rfl rfl) rfl hl.1 (lv_room (Nat.le_of_ble_eq_true rfl)) dL_law_506 ⟨(by show _ ≤ 604962; omega), (by show _ ≤ 7286739; omega)⟩ hS hA rfl (fun locs hS => ?_)
          refine lv_topi (fun y ey => ?_)
          obtain rfl : y = 4 := ey.trans (by rw [(m5 hn hs ha hd2 hc3 hd4 had hca hcd hda hdd hdc hB16 hB0 hC16 hC0 hD16 hD0 (by decide) (by decide)).1, (m5 hn hs ha hd2 hc3 hd4 had hca hcd hda hdd hdc hB16 hB0 hC16 hC0 hD16 hD0 (by decide) (by decide)).2])
          refine lv_iconst (v := 4) hx hb dL_law_509 (by decide) ?_
          refine lv_icmp_ne (tgt := 517) hx hb dL_law_510 (by decide) (fun c_510 => absurd c_510 (by decide)) (fun c_510 => ?_)
          refine lv_iconst (v := 1) hx hb dL_law_513 (by decide) ?_
          refine lv_goto (tgt := 518) hx hb dL_law_514 (by decide) ?_
          refine lv_iand hx hb dL_law_518 ?_
          refine lv_istore_n (lv' := [(2, .int 1), (21, .long (lN (wN V ^^^ (bp B a ^^^ bp C d2 ^^^ bp D c3 ^^^ bp 5 d4)))), (20, .int (nI d4)), (18, .long (lN (wN V ^^^ (bp B a ^^^ bp C d2 ^^^ bp D c3)))), (17, .int (nI D)), (16, .int (nI c3)), (15, .int (nI (2 ^ a ||| 2 ^ d2))), (13, .long (lN (wN V ^^^ (bp B a ^^^ bp C d2)))), (11, .long (lN (wN V ^^^ bp B a))), (10, .int (nI C)), (9, .int (nI B)), (8, .int (nI d2)), (7, .int (nI a)), (5, .long (lN (wN V))), (4, .int (nI V)), (0, .ref b), (1, .ref (v 0)), (3, .int (nI k))]) hx hb dL_law_519 rfl hl (by decide) rfl (fun ls hl => ?_)
          refine lv_iconst (v := 1) hx hb dL_law_520 (by decide) ?_
          refine lv_iload hx hb dL_law_521 (lv_at hl 5 rfl) ?_
          refine lv_ishl hx hb dL_law_523 ?_
          refine lv_topi (fun y ey => ?_)
          obtain rfl : y = nI (2 ^ c3) := ey.trans (cOne c3 hc3)
          refine lv_istore (lv' := [(21, .int (nI (2 ^ c3))), (2, .int 1), (20, .int (nI d4)), (18, .long (lN (wN V ^^^ (bp B a ^^^ bp C d2 ^^^ bp D c3)))), (17, .int (nI D)), (16, .int (nI c3)), (15, .int (nI (2 ^ a ||| 2 ^ d2))), (13, .long (lN (wN V ^^^ (bp B a ^^^ bp C d2)))), (11, .long (lN (wN V ^^^ bp B a))), (10, .int (nI C)), (9, .int (nI B)), (8, .int (nI d2)), (7, .int (nI a)), (5, .long (lN (wN V))), (4, .int (nI V)), (0, .ref b), (1, .ref (v 0)), (3, .int (nI k))]) hx hb dL_law_524 hl (by decide) rfl (fun ls hl => ?_)
          refine lv_aload_n hx hb dL_law_526 rfl (lv_at hl 16 rfl) ?_
          refine lv_lload hx hb dL_law_527 (lv_at hl 3 rfl) ?_
          refine lv_iload hx hb dL_law_529 (lv_at hl 0 rfl) ?_
          refine lx_calli (As := [.ref (v 0), .long (lN (wN V ^^^ (bp B a ^^^ bp C d2 ^^^ bp D c3))), .int (nI (2 ^ c3))]) (rest := []) ⟨hx, hb, hml, hown, htl⟩ (x_L_mend_3 l hstk (v 0) (lN (wN V ^^^ (bp B a ^^^ bp C d2 ^^^ bp D c3))) (nI (2 ^ c3)) (lN_nn (x32 hn (e3_32 ha hd2 hc3 hB16 hC16 hD16))) (lN_top (x32 hn (e3_32 ha hd2 hc3 hB16 hC16 hD16))) (nI_lnn (Nat.lt_trans (p256 hc3) (by decide))) (nI_ltop (M := 255) (Nat.le_of_lt_succ (p256 hc3)) (by decide)) (m6 hn hs ha hd2 hc3 had hca hcd hB16 hB0 hC16 hC0 hD16)) (vx_cwSW 3 htl gL_law_L_mend rfl rfl rfl (by decide +kernel) ⟨(Nat.le_of_ble_eq_true rfl), (Nat.le_of_ble_eq_true rfl)⟩) (va_recv hK hP (ci := 6) (q0 := 0) rfl rfl) rfl hl.1 (lv_room (Nat.le_of_ble_eq_true rfl)) dL_law_531 ⟨(by show _ ≤ 604962; omega), (by show _ ≤ 7286739; omega)⟩ hS rfl hxN hNc (fun H1 locs hkeep hS => ?_)
          have hP := hP.kept (fun k q hk => hkeep q.1 ((hP k q hk).lt))
          refine lv_istore (lv' := [(22, .int (-900002)), (21, .int (nI (2 ^ c3))), (2, .int 1), (20, .int (nI d4)), (18, .long (lN (wN V ^^^ (bp B a ^^^ bp C d2 ^^^ bp D c3)))), (17, .int (nI D)), (16, .int (nI c3)), (15, .int (nI (2 ^ a ||| 2 ^ d2))), (13, .long (lN (wN V ^^^ (bp B a ^^^ bp C d2)))), (11, .long (lN (wN V ^^^ bp B a))), (10, .int (nI C)), (9, .int (nI B)), (8, .int (nI d2)), (7, .int (nI a)), (5, .long (lN (wN V))), (4, .int (nI V)), (0, .ref b), (1, .ref (v 0)), (3, .int (nI k))]) hx hb dL_law_534 hl (by decide) rfl (fun ls hl => ?_)
          refine lv_iload_n hx hb dL_law_536 rfl (lv_at hl 2 rfl) ?_
          refine lv_iload hx hb dL_law_537 (lv_at hl 0 rfl) ?_
          refine lv_ldc (v := (-900002)) hx hb hown (hts (.constant RL 26 (-900002)) (by decide +kernel)) dL_law_539 ?_
          refine lv_icmp_eq (tgt := 575) hx hb dL_law_541 (by decide) (fun c_541 => ?_) (fun c_541 => absurd c_541 (by decide))
          refine lv_iconst (v := 1) hx hb dL_law_575 (by decide) ?_
          refine lv_goto (tgt := 580) hx hb dL_law_576 (by decide) ?_
          refine lv_iand hx hb dL_law_580 ?_
          refine lv_istore_n (lv' := [(2, .int 1), (22, .int (-900002)), (21, .int (nI (2 ^ c3))), (20, .int (nI d4)), (18, .long (lN (wN V ^^^ (bp B a ^^^ bp C d2 ^^^ bp D c3)))), (17, .int (nI D)), (16, .int (nI c3)), (15, .int (nI (2 ^ a ||| 2 ^ d2))), (13, .long (lN (wN V ^^^ (bp B a ^^^ bp C d2)))), (11, .long (lN (wN V ^^^ bp B a))), (10, .int (nI C)), (9, .int (nI B)), (8, .int (nI d2)), (7, .int (nI a)), (5, .long (lN (wN V))), (4, .int (nI V)), (0, .ref b), (1, .ref (v 0)), (3, .int (nI k))]) hx hb dL_law_581 rfl hl (by decide) rfl (fun ls hl => ?_)
          refine W.widen (k := 60 + 10 * k + 4) (n := 700 + 60 * k + 24) (by omega) (by omega) ?_
          exact law_tail l hL C0 CC hk hV next _ _ ls hP hD hS (lv_sub hl [16, 17, 0, 18, 14] rfl)
set_option maxHeartbeats 8000000 in
set_option maxRecDepth 100000 in
/-- the six rounds -/
theorem law_rounds {p : Program} {e : Env} {s : State} {m : MethodId} {below : List Frame} {meth : Method} {c : Code} (l : Launch) {D : va_G} {cJ : ClassId} {b L : Nat} {xs : Nat → Int32} (hL : L ≤ 260) (C0 : lw_At p s m meth c b L xs) (CC : lawC l s D cJ) {v : Nat → Nat} {sa sq nu ns nn f : Nat → Int64}
    (rest : ∀ (H : Heap) (locs : List Loc) (ls : Array Slot), va_P D vwCl (oW cJ v 0 sa sq nu ns nn f) H → va_D (xA s) (oW cJ v 0 sa sq nu ns nn f) → va_S (xA s) s.heap H locs → lv_has ls 24 [(0, .ref b), (1, .ref (v 0)), (2, .int 1), (3, .int (nI 6))] → W p l e room_1 s m #[Value.ref b] below meth c H locs 120 1060 (lw_Z below #[Value.ref b] s) (F0 m 772 ls [])) :
    ∀ (n k : Nat), k + n = 6 → ∀ (H : Heap) (locs : List Loc) (ls : Array Slot), va_P D vwCl (oW cJ v 0 sa sq nu ns nn f) H → va_D (xA s) (oW cJ v 0 sa sq nu ns nn f) → va_S (xA s) s.heap H locs → lv_has ls 24 [(0, .ref b), (1, .ref (v 0)), (2, .int 1), (3, .int (nI k))] → W p l e room_1 s m #[Value.ref b] below meth c H locs (60 + 10 * k) (700 + 60 * k) (lw_Z below #[Value.ref b] s) (F0 m 74 ls []) := by
  obtain ⟨hx, hb, hr, hml, hown, hts, hX, hbl, hlocks, hgv⟩ := id C0
  obtain ⟨hstk, hK, hxI, hxN, hNc, hZone⟩ := id CC
  have htl : ∀ w ∈ wsL_law, w.before #[Value.ref b] s = true := fun w h => hts w (wsL_law_in w h)
  have hts : ∀ w ∈ wsL_law, w.before #[Value.ref b] s = true := htl
  have hA : ∀ q : Nat, s.heap.size ≤ q → xA s q := fun _ h => h
  have hbA : ¬ xA s b := Nat.not_le.mpr hbl
  intro n
  induction n with
  | zero =>
    intro k hk H locs ls hP hD hS hl
    obtain rfl : k = 6 := by omega
    refine lv_iload_n hx hb dL_law_74 rfl (lv_at hl 3 rfl) ?_
    refine lv_bipush (v := 6) hx hb dL_law_75 (by decide) ?_
    refine lv_icmp_ge (tgt := 772) hx hb dL_law_77 (by decide) (fun c_77 => ?_) (fun c_77 => absurd c_77 (by decide))
    exact rest _ _ ls hP hD hS (lv_sub hl [0, 1, 2, 3] rfl)
  | succ n ih =>
    intro k hk H locs ls hP hD hS hl
    refine lv_iload_n hx hb dL_law_74 rfl (lv_at hl 3 rfl) ?_
    refine lv_bipush (v := 6) hx hb dL_law_75 (by decide) ?_
    refine lv_icmp_ge (tgt := 772) hx hb dL_law_77 (by decide) (fun c_77 => absurd c_77 (nI_ge (a := k) (b := 6) (by omega) (by omega))) (fun c_77 => ?_)
    exact law_front l hL C0 CC (by omega) (fun H locs ls hP hD hS hl => ih (k + 1) (by omega) H locs ls hP hD hS hl) _ _ ls hP hD hS (lv_sub hl [0, 1, 2, 3] rfl)
