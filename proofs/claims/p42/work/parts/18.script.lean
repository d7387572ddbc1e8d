/-! The law's numbers out of the script: L ints xs at the cell b -/
def gCA (L : Nat) (xs : Nat → Int32) (k : Nat) : Int32 := gCell (if k < L then xs k else 0) (nI k)
def gIn (L : Nat) (xs : Nat → Int32) (k : Nat) (n : Int32) : Int32 := (gCA L xs k &&& 2147483647) - (gCA L xs k &&& 2147483647) / n * n
theorem gIn_lt (L : Nat) (xs : Nat → Int32) (k : Nat) {N : Nat} (h0 : 0 < N) (hN : N < 2 ^ 31) : ∃ j : Nat, j < N ∧ gIn L xs k (nI N) = nI j := by
  refine ⟨(gCA L xs k).toBitVec.toNat % 2 ^ 31 % N, Nat.mod_lt _ h0, ?_⟩
  unfold gIn
  rw [pk_and _ 31 (by decide), pk_rem (Nat.mod_lt _ (by decide)) h0 hN]
def sc_i (l : Launch) (y : MethodName) (ws : List Cond) (rm : Room) (av : List Value) (b L : Nat) (xs : Nat → Int32) (f : Int32) : Prop := ∀ H0 : Heap, Met l y ws rm (va_Pc av (fun U => U.heap = H0 ∧ va_X b L xs U U.heap ∧ b < U.heap.size)) (va_Qi (fun (r : Int32) (_ : Unit) => r = f) (fun _ t => t.heap = H0) (fun q => H0.size ≤ q)) 0 0 (fun q => H0.size ≤ q)
section SC
variable {p : Program} {l : Launch} {e : Env} {R : Room} {s : State} {m : MethodId} {args : Array Value} {below : List Frame} {meth : Method} {c : Code} {H : Heap} {locs : List Loc} {cells slots : Nat} {Q : State → Prop}
variable {y : MethodName} {bytes cc : ByteArray} {maxL nL n index : Nat} {ret : Option FieldType} {ws : List Cond} {rm : Room} {Ts : List Cond} {own C : String} {As rest : List Value} {pc : Nat} {ls : Array Slot} {st0 : List Value} {A0 : Nat → Prop} {H0 : Heap} {b L o : Nat} {xs : Nat → Int32} {hh : List (Nat × Nat × Nat × Nat)} {D : va_G} {cJ : ClassId} {w w' wr wa wn : va_W}
theorem sc_calli {f : Int32} (S : CallFix p m c cc nL s args Ts own) (hM : sc_i l y ws rm As b L xs f) (cw : CallB R s args own index y bytes maxL ret ws rm 0 0 n ∧ (Cond.static y).before args s = true) (hn : As.length = n) (hsize : ls.size = nL)
    (hW : 2 * (F0 m pc ls st0).monitorRoom + (rest.map fun v => v.category).sum ≤ 8) (hdg : decode cc pc = .ok (.invokestatic index, 3)) (hf : cells + 0 ≤ R.cells ∧ slots + 0 ≤ R.slots) (hS : va_S A0 H0 H locs) (hA : ∀ q, H0.size ≤ q → A0 q) (hst : st0 = As.reverse ++ rest) (hX : va_X b L xs s H) (hb : b < H.size)
    (kk : ∀ locs1 : List Loc, va_S A0 H0 H locs1 → W p l e R s m args below meth c H locs1 cells slots Q (F0 m (pc + 3) ls (.int f :: rest))) : W p l e R s m args below meth c H locs cells slots Q (F0 m pc ls st0) := by
  refine va_calli (A1 := fun q => H.size ≤ q) (va_runS S (hM H) cw ⟨fun a U g mk q => ⟨q.1, q.2.1, va_X.moved (u := U) (U := U.calling g mk a) (Vm.Alike.refl U.vm) q.2.2.1, q.2.2.2⟩, fun U hU hW => ⟨rfl, hU, by rw [hU]; exact va_X.moved hW.alike hX, by rw [hU]; exact hb⟩⟩ rfl hn hsize hst hW hdg hf) hS (fun q h1 h2 => absurd h1 (Nat.not_lt.mpr h2)) (fun q h => hA q (Nat.le_trans hS.1 h)) (fun r u t H1 locs1 ht hvm hp hB hz hk hS1 => ?_)
  have e1 : H1 = H := ht.symm.trans hB
  subst e1
  have e2 : r = f := hp
  subst e2
  exact kk locs1 hS1
/-- a static writer with a table of its own -/
theorem wu_calliSW {f : Int32} (S : CallFix p m c cc nL s args Ts own) (hM : wc_i l y ws rm As D cJ w w' f) (cw : vx_CSW R s args own index y bytes maxL ret hh ws rm 0 0 n) (hn : As.length = n) (hsize : ls.size = nL)
    (hW : 2 * (F0 m pc ls st0).monitorRoom + (rest.map fun v => v.category).sum ≤ 8) (hdg : decode cc pc = .ok (.invokestatic index, 3)) (hf : cells + 0 ≤ R.cells ∧ slots + 0 ≤ R.slots) (hS : va_S A0 H0 H locs) (hA : ∀ q, H0.size ≤ q → A0 q) (hst : st0 = As.reverse ++ rest) (hK : va_K D vwCl [(cJ, .long)] s) (hP : va_P D vwCl wa H) (hD : va_D A0 wa)
    (isC isR is9 : List Nat) (hC1 : isC.filterMap (fun i => wa[i]?) = w) (hC : isC.map (fun i => wa[i]?) = w.map some) (hCn : va_nd isC = true) (hR : isR.map (fun i => wa[i]?) = wr.map some) (hRn : va_nd isR = true) (hdis : ∀ i ∈ isR, i ∉ isC) (h9 : is9.filterMap (fun i => (wr ++ w')[i]?) = wn) (h9m : is9.map (fun i => (wr ++ w')[i]?) = wn.map some) (h9n : va_nd is9 = true)
    (kk : ∀ (H1 : Heap) (locs1 : List Loc), va_P D vwCl wn H1 → va_D A0 wn → va_S A0 H0 H1 locs1 → W p l e R s m args below meth c H1 locs1 cells slots Q (F0 m (pc + 3) ls (.int f :: rest))) : W p l e R s m args below meth c H locs cells slots Q (F0 m pc ls st0) := by
  have hPc := hP.sub isC hC1
  have hDc := hD.sub isC hCn hC
  have hFc := va_free hD hS hA isC hC
  refine va_calli (vx_runSW S (hM H.size) cw ⟨wPre_blind, fun U hU hW => ⟨rfl, by rw [hU], by rw [hU]; exact hPc, va_K.moved hW.alike hK, hDc.weaken (fun _ _ _ _ => trivial)⟩⟩ rfl hn hsize hst hW hdg hf) hS (fun q _ h => hFc q h) hFc (fun r u t H1 locs1 ht hvm hp hB hz hk hS1 => ?_)
  obtain ⟨e1, e2⟩ : r = f ∧ u = w' := hp
  subst e1; subst e2
  obtain ⟨hP1, hK1, hD1⟩ := hB
  rw [ht] at hP1
  obtain ⟨hP2, hD2⟩ := va_join hP hD isC isR hC hR hRn hdis hk hFc hP1 hD1
  exact kk H1 locs1 (hP2.sub is9 h9) (hD2.sub is9 h9n h9m) hS1
end SC
set_option maxHeartbeats 4000000 in
set_option maxRecDepth 100000 in
theorem c_L_cell (l : Launch) (b L k : Nat) (hL : L ≤ 260) (hk : k < 1000) (xs : Nat → Int32) : sc_i l yL_cell wsL_cell ({ frames := 0, cells := 0, slots := 0, locals := 0 } : Room) [.ref b, .int (nI k)] b L xs (gCA L xs k) := by
  intro H0
  refine Met.ofW (cc := cL_cell) (maxL := 3) (ret := (some .int)) (by decide) rfl ?_
  intro p e s m args below meth c s₁ B hml hv
  obtain ⟨rfl, rfl, hX, hbl⟩ := hv
  have hx := B.exec
  have hb := B.bytes
  have hr := B.returns
  have hts := atoms_spec (ws := wsL_cell) B.pre
  have hown : s.vm.findClass RL = some m.cls := findClass_of_methodNamed B.named
  have hlocks := B.notSynchronized
  have hS : va_S (xA s) s.heap s.heap [] := va_S.rf
  have hA : ∀ q : Nat, s.heap.size ≤ q → xA s q := fun _ h => h
  have hbA : ¬ xA s b := Nat.not_le.mpr hbl
  have hl := lv_entry ([.ref b, .int (nI k)]) (n := 3) (Nat.le_of_ble_eq_true rfl)
  rw [lg_entry_eq]
  generalize (lg_sl ([.ref b, .int (nI k)]) ++ List.replicate (3 - (lg_sl ([.ref b, .int (nI k)])).length) Slot.unset).toArray = ls at hl ⊢
  have hl : lv_has ls 3 [(0, .ref b), (1, .int (nI k))] := hl
  refine lv_ldc (v := 69069) hx hb hown (hts (.constant RL 7 69069) (by decide +kernel)) dL_cell_0 ?_
  refine lv_iload_n hx hb dL_cell_2 rfl (lv_at hl 1 rfl) ?_
  refine lv_aload_n hx hb dL_cell_3 rfl (lv_at hl 0 rfl) ?_
  refine va_slen hx hb hX hbl hbA hS dL_cell_4 ?_
  refine lv_icmp_ge (tgt := 14) hx hb dL_cell_5 (by decide) (fun c_5 => ?_) (fun c_5 => ?_)
  · refine lv_iconst (v := 0) hx hb dL_cell_14 (by decide) ?_
    refine lv_sipush (v := 1009) hx hb dL_cell_15 (by decide) ?_
    refine lv_iload_n hx hb dL_cell_18 rfl (lv_at hl 1 rfl) ?_
    refine lv_imul hx hb dL_cell_19 ?_
    refine lv_iadd hx hb dL_cell_20 ?_
    refine lv_imul hx hb dL_cell_21 ?_
    refine lv_sipush (v := 12345) hx hb dL_cell_22 (by decide) ?_
    refine lv_iadd hx hb dL_cell_25 ?_
    refine lv_istore_n (lv' := [(2, .int ((69069 * (0 + (1009 * (nI k)))) + 12345)), (0, .ref b), (1, .int (nI k))]) hx hb dL_cell_26 rfl hl (by decide) rfl (fun ls hl => ?_)
    refine lv_iload_n hx hb dL_cell_27 rfl (lv_at hl 0 rfl) ?_
    refine lv_iload_n hx hb dL_cell_28 rfl (lv_at hl 0 rfl) ?_
    refine lv_bipush (v := 13) hx hb dL_cell_29 (by decide) ?_
    refine lv_iushr hx hb dL_cell_31 rfl ?_
    refine lv_ixor hx hb dL_cell_32 ?_
    refine lv_ldc (v := 1103515245) hx hb hown (hts (.constant RL 8 1103515245) (by decide +kernel)) dL_cell_33 ?_
    refine lv_imul hx hb dL_cell_35 ?_
    refine lv_istore_n (lv' := [(2, .int ((((69069 * (0 + (1009 * (nI k)))) + 12345) ^^^ ((((69069 * (0 + (1009 * (nI k)))) + 12345).toUInt32 >>> ((13 : Int32).toUInt32 &&& Int32.toUInt32 31)).toInt32)) * 1103515245)), (0, .ref b), (1, .int (nI k))]) hx hb dL_cell_36 rfl hl (by decide) rfl (fun ls hl => ?_)
    refine lv_iload_n hx hb dL_cell_37 rfl (lv_at hl 0 rfl) ?_
    refine lv_iload_n hx hb dL_cell_38 rfl (lv_at hl 0 rfl) ?_
    refine lv_bipush (v := 16) hx hb dL_cell_39 (by decide) ?_
    refine lv_iushr hx hb dL_cell_41 rfl ?_
    refine lv_ixor hx hb dL_cell_42 ?_
    exact W.iret (v := (((((69069 * (0 + (1009 * (nI k)))) + 12345) ^^^ ((((69069 * (0 + (1009 * (nI k)))) + 12345).toUInt32 >>> ((13 : Int32).toUInt32 &&& Int32.toUInt32 31)).toInt32)) * 1103515245) ^^^ ((((((69069 * (0 + (1009 * (nI k)))) + 12345) ^^^ ((((69069 * (0 + (1009 * (nI k)))) + 12345).toUInt32 >>> ((13 : Int32).toUInt32 &&& Int32.toUInt32 31)).toInt32)) * 1103515245).toUInt32 >>> ((16 : Int32).toUInt32 &&& Int32.toUInt32 31)).toInt32))) hx hb hr (fun t ht hW => ⟨⟨(((((69069 * (0 + (1009 * (nI k)))) + 12345) ^^^ ((((69069 * (0 + (1009 * (nI k)))) + 12345).toUInt32 >>> ((13 : Int32).toUInt32 &&& Int32.toUInt32 31)).toInt32)) * 1103515245) ^^^ ((((((69069 * (0 + (1009 * (nI k)))) + 12345) ^^^ ((((69069 * (0 + (1009 * (nI k)))) + 12345).toUInt32 >>> ((13 : Int32).toUInt32 &&& Int32.toUInt32 31)).toInt32)) * 1103515245).toUInt32 >>> ((16 : Int32).toUInt32 &&& Int32.toUInt32 31)).toInt32)), (), rfl, (by rw [gCA, if_neg (Nat.not_lt.mpr ((nI_leI (by omega) (by omega)).mp c_5))]; rfl), ht⟩, hS.F ht⟩) hS.2.2 dL_cell_43
  · refine lv_aload_n hx hb dL_cell_8 rfl (lv_at hl 0 rfl) ?_
    refine lv_iload_n hx hb dL_cell_9 rfl (lv_at hl 1 rfl) ?_
    have hlt : k < L := Nat.lt_of_not_le (fun z => c_5 (nI_le z (by omega)))
    refine va_sld hx hb hX hbl hbA hS (vp_in_nI hlt (by omega)) dL_cell_10 ?_
    rw [nI_clamp (show k < 2 ^ 31 by omega)]
    refine lv_goto (tgt := 15) hx hb dL_cell_11 (by decide) ?_
    refine lv_sipush (v := 1009) hx hb dL_cell_15 (by decide) ?_
    refine lv_iload_n hx hb dL_cell_18 rfl (lv_at hl 1 rfl) ?_
    refine lv_imul hx hb dL_cell_19 ?_
    refine lv_iadd hx hb dL_cell_20 ?_
    refine lv_imul hx hb dL_cell_21 ?_
    refine lv_sipush (v := 12345) hx hb dL_cell_22 (by decide) ?_
    refine lv_iadd hx hb dL_cell_25 ?_
    refine lv_istore_n (lv' := [(2, .int ((69069 * ((xs k) + (1009 * (nI k)))) + 12345)), (0, .ref b), (1, .int (nI k))]) hx hb dL_cell_26 rfl hl (by decide) rfl (fun ls hl => ?_)
    refine lv_iload_n hx hb dL_cell_27 rfl (lv_at hl 0 rfl) ?_
    refine lv_iload_n hx hb dL_cell_28 rfl (lv_at hl 0 rfl) ?_
    refine lv_bipush (v := 13) hx hb dL_cell_29 (by decide) ?_
    refine lv_iushr hx hb dL_cell_31 rfl ?_
    refine lv_ixor hx hb dL_cell_32 ?_
    refine lv_ldc (v := 1103515245) hx hb hown (hts (.constant RL 8 1103515245) (by decide +kernel)) dL_cell_33 ?_
    refine lv_imul hx hb dL_cell_35 ?_
    refine lv_istore_n (lv' := [(2, .int ((((69069 * ((xs k) + (1009 * (nI k)))) + 12345) ^^^ ((((69069 * ((xs k) + (1009 * (nI k)))) + 12345).toUInt32 >>> ((13 : Int32).toUInt32 &&& Int32.toUInt32 31)).toInt32)) * 1103515245)), (0, .ref b), (1, .int (nI k))]) hx hb dL_cell_36 rfl hl (by decide) rfl (fun ls hl => ?_)
    refine lv_iload_n hx hb dL_cell_37 rfl (lv_at hl 0 rfl) ?_
    refine lv_iload_n hx hb dL_cell_38 rfl (lv_at hl 0 rfl) ?_
    refine lv_bipush (v := 16) hx hb dL_cell_39 (by decide) ?_
    refine lv_iushr hx hb dL_cell_41 rfl ?_
    refine lv_ixor hx hb dL_cell_42 ?_
    exact W.iret (v := (((((69069 * ((xs k) + (1009 * (nI k)))) + 12345) ^^^ ((((69069 * ((xs k) + (1009 * (nI k)))) + 12345).toUInt32 >>> ((13 : Int32).toUInt32 &&& Int32.toUInt32 31)).toInt32)) * 1103515245) ^^^ ((((((69069 * ((xs k) + (1009 * (nI k)))) + 12345) ^^^ ((((69069 * ((xs k) + (1009 * (nI k)))) + 12345).toUInt32 >>> ((13 : Int32).toUInt32 &&& Int32.toUInt32 31)).toInt32)) * 1103515245).toUInt32 >>> ((16 : Int32).toUInt32 &&& Int32.toUInt32 31)).toInt32))) hx hb hr (fun t ht hW => ⟨⟨(((((69069 * ((xs k) + (1009 * (nI k)))) + 12345) ^^^ ((((69069 * ((xs k) + (1009 * (nI k)))) + 12345).toUInt32 >>> ((13 : Int32).toUInt32 &&& Int32.toUInt32 31)).toInt32)) * 1103515245) ^^^ ((((((69069 * ((xs k) + (1009 * (nI k)))) + 12345) ^^^ ((((69069 * ((xs k) + (1009 * (nI k)))) + 12345).toUInt32 >>> ((13 : Int32).toUInt32 &&& Int32.toUInt32 31)).toInt32)) * 1103515245).toUInt32 >>> ((16 : Int32).toUInt32 &&& Int32.toUInt32 31)).toInt32)), (), rfl, (by rw [gCA, if_pos hlt]; rfl), ht⟩, hS.F ht⟩) hS.2.2 dL_cell_43
set_option maxHeartbeats 4000000 in
set_option maxRecDepth 100000 in
theorem c_L_in (l : Launch) (b L k : Nat) (hL : L ≤ 260) (hk : k < 1000) (xs : Nat → Int32) (n : Int32) (hn : ¬ n = 0) : sc_i l yL_in wsL_in ({ frames := 1, cells := 0, slots := 0, locals := 22 } : Room) [.ref b, .int (nI k), .int n] b L xs (gIn L xs k n) := by
  intro H0
  refine Met.ofW (cc := cL_in) (maxL := 3) (ret := (some .int)) (by decide) rfl ?_
  intro p e s m args below meth c s₁ B hml hv
  obtain ⟨rfl, rfl, hX, hbl⟩ := hv
  have hx := B.exec
  have hb := B.bytes
  have hr := B.returns
  have hts := atoms_spec (ws := wsL_in) B.pre
  have hown : s.vm.findClass RL = some m.cls := findClass_of_methodNamed B.named
  have hlocks := B.notSynchronized
  have hS : va_S (xA s) s.heap s.heap [] := va_S.rf
  have hA : ∀ q : Nat, s.heap.size ≤ q → xA s q := fun _ h => h
  have hbA : ¬ xA s b := Nat.not_le.mpr hbl
  have hl := lv_entry ([.ref b, .int (nI k), .int n]) (n := 3) (Nat.le_of_ble_eq_true rfl)
  rw [lg_entry_eq]
  generalize (lg_sl ([.ref b, .int (nI k), .int n]) ++ List.replicate (3 - (lg_sl ([.ref b, .int (nI k), .int n])).length) Slot.unset).toArray = ls at hl ⊢
  have hl : lv_has ls 3 [(0, .ref b), (1, .int (nI k)), (2, .int n)] := hl
  refine lv_aload_n hx hb dL_in_0 rfl (lv_at hl 0 rfl) ?_
  refine lv_iload_n hx hb dL_in_1 rfl (lv_at hl 1 rfl) ?_
  refine sc_calli (As := [.ref b, .int (nI k)]) (rest := []) ⟨hx, hb, hml, hown, hts⟩ (c_L_cell l b L k hL hk xs) (va_cwS 2 hts gL_in_L_cell rfl rfl rfl (by decide +kernel) ⟨(Nat.le_of_ble_eq_true rfl), (Nat.le_of_ble_eq_true rfl)⟩) rfl hl.1 (lv_room (Nat.le_of_ble_eq_true rfl)) dL_in_2 ⟨Nat.zero_le _, Nat.zero_le _⟩ hS hA rfl hX hbl (fun locs hS => ?_)
  refine lv_ldc (v := 2147483647) hx hb hown (hts (.constant RL 49 2147483647) (by decide +kernel)) dL_in_5 ?_
  refine lv_iand hx hb dL_in_7 ?_
  refine lv_iload_n hx hb dL_in_8 rfl (lv_at hl 2 rfl) ?_
  refine lv_irem hx hb dL_in_9 hn ?_
  exact W.iret (v := (((gCA L xs k) &&& 2147483647) - ((gCA L xs k) &&& 2147483647) / n * n)) hx hb hr (fun t ht hW => ⟨⟨(((gCA L xs k) &&& 2147483647) - ((gCA L xs k) &&& 2147483647) / n * n), (), rfl, rfl, ht⟩, hS.F ht⟩) hS.2.2 dL_in_10
set_option maxHeartbeats 4000000 in
set_option maxRecDepth 100000 in
theorem c_X8_sample (l : Launch) (D : va_G) (cJ : ClassId) (ob bu pl se c0 a1 a2 a3 a5 a7 a9 : Nat) (k : Nat) (hk : k < 12) (sa : Nat → Int64) (x : Int32) (h1 : ¬ x.toInt64 < -40) (h2 : ¬ 40 < x.toInt64) : wc_i l yX8_sample wsX8_sample ({ frames := 2, cells := 0, slots := 0, locals := 44 } : Room) [.ref ob, .int x] D cJ [(ob, .inr (6, [.ref c0, .ref bu, .ref pl, .ref se, .int 0, .int 20, .int 0, .int 0])), (c0, .inr (1, [.ref a1, .int (nI k), .ref a3, .ref a5, .ref a7, .ref a9])), (a1, .inr (3, [.ref a2])), (a2, .inl (cJ, 12, .inr (.inl sa)))] [(ob, .inr (6, [.ref c0, .ref bu, .ref pl, .ref se, .int 0, .int 20, .int 0, .int 0])), (c0, .inr (1, [.ref a1, .int (nI k + 1), .ref a3, .ref a5, .ref a7, .ref a9])), (a1, .inr (3, [.ref a2])), (a2, .inl (cJ, 12, .inr (.inl (fPut 12 sa (nI k) x.toInt64))))] (nI k + 1) := by
  intro sz
  refine Met.ofW (cc := cX8_sample) (maxL := 2) (ret := (some .int)) (by decide) rfl ?_
  intro p e s m args below meth c s₁ B hml hv
  obtain ⟨rfl, rfl, hP, hK, hD0⟩ := hv
  have hx := B.exec
  have hb := B.bytes
  have hr := B.returns
  have hts := atoms_spec (ws := wsX8_sample) B.pre
  have hown : s.vm.findClass RX8 = some m.cls := findClass_of_methodNamed B.named
  have hlocks := B.notSynchronized
  have hS : va_S (va_A [(ob, .inr (6, [.ref c0, .ref bu, .ref pl, .ref se, .int 0, .int 20, .int 0, .int 0])), (c0, .inr (1, [.ref a1, .int (nI k), .ref a3, .ref a5, .ref a7, .ref a9])), (a1, .inr (3, [.ref a2])), (a2, .inl (cJ, 12, .inr (.inl sa)))] s.heap.size) s.heap s.heap [] := va_S.rf
  have hD := hD0.self (sz := s.heap.size)
  have hA : ∀ q : Nat, s.heap.size ≤ q → (va_A [(ob, .inr (6, [.ref c0, .ref bu, .ref pl, .ref se, .int 0, .int 20, .int 0, .int 0])), (c0, .inr (1, [.ref a1, .int (nI k), .ref a3, .ref a5, .ref a7, .ref a9])), (a1, .inr (3, [.ref a2])), (a2, .inl (cJ, 12, .inr (.inl sa)))] s.heap.size) q := fun _ h => Or.inr h
  have hl := lv_entry ([.ref ob, .int x]) (n := 2) (Nat.le_of_ble_eq_true rfl)
  rw [lg_entry_eq]
  generalize (lg_sl ([.ref ob, .int x]) ++ List.replicate (2 - (lg_sl ([.ref ob, .int x])).length) Slot.unset).toArray = ls at hl ⊢
  have hl : lv_has ls 2 [(0, .ref ob), (1, .int x)] := hl
  have hP : va_P D vwCl [(ob, .inr (6, [.ref c0, .ref bu, .ref pl, .ref se, .int 0, .int 20, .int 0, .int 0])), (c0, .inr (1, [.ref a1, .int (nI k), .ref a3, .ref a5, .ref a7, .ref a9])), (a1, .inr (3, [.ref a2])), (a2, .inl (cJ, 12, .inr (.inl sa)))] s.heap := hP
  refine lv_iload_n hx hb dX8_sample_0 rfl (lv_at hl 1 rfl) ?_
  refine lv_i2l hx hb dX8_sample_1 rfl ?_
  refine lv_ldc2 (v := (-40)) hx hb hown (hts (.constantLong RX8 90 (-40)) (by decide +kernel)) dX8_sample_2 ?_
  refine lv_ldc2 (v := 40) hx hb hown (hts (.constantLong RX8 92 40) (by decide +kernel)) dX8_sample_5 ?_
  refine pu_callv (As := [.long x.toInt64, .long (-40), .long 40]) (rest := []) ⟨hx, hb, hml, hown, hts⟩ (c_X8_checkRange l x.toInt64 (-40) 40 h1 h2) (va_cwS 3 hts gX8_sample_X8_checkRange rfl rfl rfl (by decide +kernel) ⟨(Nat.le_of_ble_eq_true rfl), (Nat.le_of_ble_eq_true rfl)⟩) rfl hl.1 (lv_room (Nat.le_of_ble_eq_true rfl)) dX8_sample_8 ⟨Nat.zero_le _, Nat.zero_le _⟩ hS hA rfl (fun locs hS => ?_)
  refine lv_aload_n hx hb dX8_sample_11 rfl (lv_at hl 0 rfl) ?_
  refine va_get (D := D) (ci := 6) (v := .ref c0) (C := RX8) (T := TX8) (N := 8) hx hb hts (by decide +kernel) hown hK hP 0 rfl rfl 0 (by decide) (hts (.fieldLink RX8 12 "Shingletrack" "channel" "LShingletrack$Channel;") (by decide +kernel)) (fun _ h9 => h9) rfl dX8_sample_12 ?_
  refine ru_calli (As := []) (rest := []) ⟨hx, hb, hml, hown, hts⟩ (c_X2_size l D cJ c0 a1 a3 a5 a7 a9 (nI k)) (cwV 0 hts gX8_sample_X2_size rfl rfl rfl (by decide +kernel) ⟨(Nat.le_of_ble_eq_true rfl), (Nat.le_of_ble_eq_true rfl)⟩) (va_recv hK hP (ci := 1) (q0 := 1) rfl rfl) rfl hl.1 (lv_room (Nat.le_of_ble_eq_true rfl)) dX8_sample_15 ⟨(Nat.le_of_ble_eq_true rfl), (Nat.le_of_ble_eq_true rfl)⟩ hS hA rfl hK (hP.sub [1] rfl) (fun locs hS => ?_)
  refine lv_bipush (v := 12) hx hb dX8_sample_18 (by decide) ?_
  refine lv_icmp_lt (tgt := 31) hx hb dX8_sample_20 (by decide) (fun c_20 => ?_) (fun c_20 => absurd c_20 (fun h => h (nI_lt (a := k) (b := 12) (by omega) (by omega))))
  refine lv_aload_n hx hb dX8_sample_31 rfl (lv_at hl 0 rfl) ?_
  refine va_get (D := D) (ci := 6) (v := .ref c0) (C := RX8) (T := TX8) (N := 8) hx hb hts (by decide +kernel) hown hK hP 0 rfl rfl 0 (by decide) (hts (.fieldLink RX8 12 "Shingletrack" "channel" "LShingletrack$Channel;") (by decide +kernel)) (fun _ h9 => h9) rfl dX8_sample_32 ?_
  refine lv_iload_n hx hb dX8_sample_35 rfl (lv_at hl 1 rfl) ?_
  refine wu_calli (wr := [(ob, .inr (6, [.ref c0, .ref bu, .ref pl, .ref se, .int 0, .int 20, .int 0, .int 0]))]) (wn := [(ob, .inr (6, [.ref c0, .ref bu, .ref pl, .ref se, .int 0, .int 20, .int 0, .int 0])), (c0, .inr (1, [.ref a1, .int ((nI k) + 1), .ref a3, .ref a5, .ref a7, .ref a9])), (a1, .inr (3, [.ref a2])), (a2, .inl (cJ, 12, .inr (.inl (fPut 12 sa (nI k) x.toInt64))))]) (As := [.int x]) (rest := []) ⟨hx, hb, hml, hown, hts⟩ (c_X2_add l D cJ c0 a1 a2 a3 a5 a7 a9 (nI k) sa x) (cwV 1 hts gX8_sample_X2_add rfl rfl rfl (by decide +kernel) ⟨(Nat.le_of_ble_eq_true rfl), (Nat.le_of_ble_eq_true rfl)⟩) (va_recv hK hP (ci := 1) (q0 := 1) rfl rfl) rfl hl.1 (lv_room (Nat.le_of_ble_eq_true rfl)) dX8_sample_36 ⟨(Nat.le_of_ble_eq_true rfl), (Nat.le_of_ble_eq_true rfl)⟩ hS hA rfl hK hP hD [1, 2, 3] [0] [0, 1, 2, 3] rfl rfl (by decide) rfl (by decide) (by decide) rfl rfl (by decide) (fun H locs hP hD hS => ?_)
  exact W.iret (v := ((nI k) + 1)) hx hb hr (fun t ht hW => ⟨⟨((nI k) + 1), [(ob, .inr (6, [.ref c0, .ref bu, .ref pl, .ref se, .int 0, .int 20, .int 0, .int 0])), (c0, .inr (1, [.ref a1, .int ((nI k) + 1), .ref a3, .ref a5, .ref a7, .ref a9])), (a1, .inr (3, [.ref a2])), (a2, .inl (cJ, 12, .inr (.inl (fPut 12 sa (nI k) x.toInt64))))], rfl, ⟨rfl, rfl⟩, (by rw [ht]; exact hP), va_K.moved hW.alike hK, hD⟩, hS.F ht⟩) hS.2.2 dX8_sample_39
set_option maxHeartbeats 4000000 in
set_option maxRecDepth 100000 in
theorem c_L_sample (l : Launch) (D : va_G) (cJ : ClassId) (ob bu pl se c0 a1 a2 a3 a5 a7 a9 : Nat) (k : Nat) (hk : k < 12) (sa : Nat → Int64) (x : Int32) (h1 : ¬ x.toInt64 < -40) (h2 : ¬ 40 < x.toInt64) : wc_i l yL_sample wsL_sample ({ frames := 3, cells := 0, slots := 0, locals := 65 } : Room) [.ref ob, .int x] D cJ [(ob, .inr (6, [.ref c0, .ref bu, .ref pl, .ref se, .int 0, .int 20, .int 0, .int 0])), (c0, .inr (1, [.ref a1, .int (nI k), .ref a3, .ref a5, .ref a7, .ref a9])), (a1, .inr (3, [.ref a2])), (a2, .inl (cJ, 12, .inr (.inl sa)))] [(ob, .inr (6, [.ref c0, .ref bu, .ref pl, .ref se, .int 0, .int 20, .int 0, .int 0])), (c0, .inr (1, [.ref a1, .int (nI k + 1), .ref a3, .ref a5, .ref a7, .ref a9])), (a1, .inr (3, [.ref a2])), (a2, .inl (cJ, 12, .inr (.inl (fPut 12 sa (nI k) x.toInt64))))] (nI k + 1) := by
  intro sz
  refine va_MetW (cc := cL_sample) (maxL := 3) (ret := (some .int)) (hh := [(0, 5, 6, 15), (0, 5, 10, 41)]) (by decide) rfl ?_
  intro p e s m args below meth c s₁ B hml hv
  obtain ⟨rfl, rfl, hP, hK, hD0⟩ := hv
  have hx := B.exec
  have hb := B.bytes
  have hr := B.returns
  have hts := atoms_spec (ws := wsL_sample) B.pre
  have hown : s.vm.findClass RL = some m.cls := findClass_of_methodNamed B.named
  have hlocks := B.notSynchronized
  have hS : va_S (va_A [(ob, .inr (6, [.ref c0, .ref bu, .ref pl, .ref se, .int 0, .int 20, .int 0, .int 0])), (c0, .inr (1, [.ref a1, .int (nI k), .ref a3, .ref a5, .ref a7, .ref a9])), (a1, .inr (3, [.ref a2])), (a2, .inl (cJ, 12, .inr (.inl sa)))] s.heap.size) s.heap s.heap [] := va_S.rf
  have hD := hD0.self (sz := s.heap.size)
  have hA : ∀ q : Nat, s.heap.size ≤ q → (va_A [(ob, .inr (6, [.ref c0, .ref bu, .ref pl, .ref se, .int 0, .int 20, .int 0, .int 0])), (c0, .inr (1, [.ref a1, .int (nI k), .ref a3, .ref a5, .ref a7, .ref a9])), (a1, .inr (3, [.ref a2])), (a2, .inl (cJ, 12, .inr (.inl sa)))] s.heap.size) q := fun _ h => Or.inr h
  have hl := lv_entry ([.ref ob, .int x]) (n := 3) (Nat.le_of_ble_eq_true rfl)
  rw [lg_entry_eq]
  generalize (lg_sl ([.ref ob, .int x]) ++ List.replicate (3 - (lg_sl ([.ref ob, .int x])).length) Slot.unset).toArray = ls at hl ⊢
  have hl : lv_has ls 3 [(0, .ref ob), (1, .int x)] := hl
  have hP : va_P D vwCl [(ob, .inr (6, [.ref c0, .ref bu, .ref pl, .ref se, .int 0, .int 20, .int 0, .int 0])), (c0, .inr (1, [.ref a1, .int (nI k), .ref a3, .ref a5, .ref a7, .ref a9])), (a1, .inr (3, [.ref a2])), (a2, .inl (cJ, 12, .inr (.inl sa)))] s.heap := hP
  refine lv_aload_n hx hb dL_sample_0 rfl (lv_at hl 0 rfl) ?_
  refine lv_iload_n hx hb dL_sample_1 rfl (lv_at hl 1 rfl) ?_
  refine wu_calli (wr := []) (wn := [(ob, .inr (6, [.ref c0, .ref bu, .ref pl, .ref se, .int 0, .int 20, .int 0, .int 0])), (c0, .inr (1, [.ref a1, .int (nI k + 1), .ref a3, .ref a5, .ref a7, .ref a9])), (a1, .inr (3, [.ref a2])), (a2, .inl (cJ, 12, .inr (.inl (fPut 12 sa (nI k) x.toInt64))))]) (As := [.int x]) (rest := []) ⟨hx, hb, hml, hown, hts⟩ (c_X8_sample l D cJ ob bu pl se c0 a1 a2 a3 a5 a7 a9 k hk sa x h1 h2) (cwV 1 hts gL_sample_X8_sample rfl rfl rfl (by decide +kernel) ⟨(Nat.le_of_ble_eq_true rfl), (Nat.le_of_ble_eq_true rfl)⟩) (va_recv hK hP (ci := 6) (q0 := 0) rfl rfl) rfl hl.1 (lv_room (Nat.le_of_ble_eq_true rfl)) dL_sample_2 ⟨(Nat.le_of_ble_eq_true rfl), (Nat.le_of_ble_eq_true rfl)⟩ hS hA rfl hK hP hD [0, 1, 2, 3] [] [0, 1, 2, 3] rfl rfl (by decide) rfl (by decide) (by decide) rfl rfl (by decide) (fun H locs hP hD hS => ?_)
  exact W.iret (v := (nI k + 1)) hx hb hr (fun t ht hW => ⟨⟨(nI k + 1), [(ob, .inr (6, [.ref c0, .ref bu, .ref pl, .ref se, .int 0, .int 20, .int 0, .int 0])), (c0, .inr (1, [.ref a1, .int (nI k + 1), .ref a3, .ref a5, .ref a7, .ref a9])), (a1, .inr (3, [.ref a2])), (a2, .inl (cJ, 12, .inr (.inl (fPut 12 sa (nI k) x.toInt64))))], rfl, ⟨rfl, rfl⟩, (by rw [ht]; exact hP), va_K.moved hW.alike hK, hD⟩, hS.F ht⟩) hS.2.2 dL_sample_5
set_option maxHeartbeats 4000000 in
set_option maxRecDepth 100000 in
theorem c_X8_guess (l : Launch) (D : va_G) (cJ : ClassId) (ob bu pl se c0 a1 a2 a3 a4 a5 a6 a7 a8 a9 a10 : Nat) (cnt : Nat) (hc : cnt ≤ 12) (sa sq nu ns nn Q1 Q2 Q3 Q4 : Nat → Int64) (hQ : kRun sa cnt 0 (fPut 4 (fFil sq 1000000 4) 0 0) (fFil nu 0 4) ns nn = (Q1, Q2, Q3, Q4)) : wc_i l yX8_guess wsX8_guess ({ frames := 3, cells := 0, slots := 0, locals := 80 } : Room) [.ref ob] D cJ [(ob, .inr (6, [.ref c0, .ref bu, .ref pl, .ref se, .int 0, .int 20, .int 0, .int 0])), (c0, .inr (1, [.ref a1, .int (nI cnt), .ref a3, .ref a5, .ref a7, .ref a9])), (a1, .inr (3, [.ref a2])), (a2, .inl (cJ, 12, .inr (.inl sa))), (a3, .inr (3, [.ref a4])), (a4, .inl (cJ, 4, .inr (.inl sq))), (a5, .inr (3, [.ref a6])), (a6, .inl (cJ, 4, .inr (.inl nu))), (a7, .inr (3, [.ref a8])), (a8, .inl (cJ, 4, .inr (.inl ns))), (a9, .inr (3, [.ref a10])), (a10, .inl (cJ, 4, .inr (.inl nn)))] [(ob, .inr (6, [.ref c0, .ref bu, .ref pl, .ref se, .int 0, .int 20, .int 0, .int 0])), (c0, .inr (1, [.ref a1, .int 0, .ref a3, .ref a5, .ref a7, .ref a9])), (a1, .inr (3, [.ref a2])), (a2, .inl (cJ, 12, .inr (.inl sa))), (a3, .inr (3, [.ref a4])), (a4, .inl (cJ, 4, .inr (.inl Q1))), (a5, .inr (3, [.ref a6])), (a6, .inl (cJ, 4, .inr (.inl Q2))), (a7, .inr (3, [.ref a8])), (a8, .inl (cJ, 4, .inr (.inl Q3))), (a9, .inr (3, [.ref a10])), (a10, .inl (cJ, 4, .inr (.inl Q4)))] ((fAt 4 Q2 (kBe Q1 Q2 3 1 0)).toInt32) := by
  intro sz
  refine Met.ofW (cc := cX8_guess) (maxL := 1) (ret := (some .int)) (by decide) rfl ?_
  intro p e s m args below meth c s₁ B hml hv
  obtain ⟨rfl, rfl, hP, hK, hD0⟩ := hv
  have hx := B.exec
  have hb := B.bytes
  have hr := B.returns
  have hts := atoms_spec (ws := wsX8_guess) B.pre
  have hown : s.vm.findClass RX8 = some m.cls := findClass_of_methodNamed B.named
  have hlocks := B.notSynchronized
  have hS : va_S (va_A [(ob, .inr (6, [.ref c0, .ref bu, .ref pl, .ref se, .int 0, .int 20, .int 0, .int 0])), (c0, .inr (1, [.ref a1, .int (nI cnt), .ref a3, .ref a5, .ref a7, .ref a9])), (a1, .inr (3, [.ref a2])), (a2, .inl (cJ, 12, .inr (.inl sa))), (a3, .inr (3, [.ref a4])), (a4, .inl (cJ, 4, .inr (.inl sq))), (a5, .inr (3, [.ref a6])), (a6, .inl (cJ, 4, .inr (.inl nu))), (a7, .inr (3, [.ref a8])), (a8, .inl (cJ, 4, .inr (.inl ns))), (a9, .inr (3, [.ref a10])), (a10, .inl (cJ, 4, .inr (.inl nn)))] s.heap.size) s.heap s.heap [] := va_S.rf
  have hD := hD0.self (sz := s.heap.size)
  have hA : ∀ q : Nat, s.heap.size ≤ q → (va_A [(ob, .inr (6, [.ref c0, .ref bu, .ref pl, .ref se, .int 0, .int 20, .int 0, .int 0])), (c0, .inr (1, [.ref a1, .int (nI cnt), .ref a3, .ref a5, .ref a7, .ref a9])), (a1, .inr (3, [.ref a2])), (a2, .inl (cJ, 12, .inr (.inl sa))), (a3, .inr (3, [.ref a4])), (a4, .inl (cJ, 4, .inr (.inl sq))), (a5, .inr (3, [.ref a6])), (a6, .inl (cJ, 4, .inr (.inl nu))), (a7, .inr (3, [.ref a8])), (a8, .inl (cJ, 4, .inr (.inl ns))), (a9, .inr (3, [.ref a10])), (a10, .inl (cJ, 4, .inr (.inl nn)))] s.heap.size) q := fun _ h => Or.inr h
  have hl := lv_entry ([.ref ob]) (n := 1) (Nat.le_of_ble_eq_true rfl)
  rw [lg_entry_eq]
  generalize (lg_sl ([.ref ob]) ++ List.replicate (1 - (lg_sl ([.ref ob])).length) Slot.unset).toArray = ls at hl ⊢
  have hl : lv_has ls 1 [(0, .ref ob)] := hl
  have hP : va_P D vwCl [(ob, .inr (6, [.ref c0, .ref bu, .ref pl, .ref se, .int 0, .int 20, .int 0, .int 0])), (c0, .inr (1, [.ref a1, .int (nI cnt), .ref a3, .ref a5, .ref a7, .ref a9])), (a1, .inr (3, [.ref a2])), (a2, .inl (cJ, 12, .inr (.inl sa))), (a3, .inr (3, [.ref a4])), (a4, .inl (cJ, 4, .inr (.inl sq))), (a5, .inr (3, [.ref a6])), (a6, .inl (cJ, 4, .inr (.inl nu))), (a7, .inr (3, [.ref a8])), (a8, .inl (cJ, 4, .inr (.inl ns))), (a9, .inr (3, [.ref a10])), (a10, .inl (cJ, 4, .inr (.inl nn)))] s.heap := hP
  refine lv_aload_n hx hb dX8_guess_0 rfl (lv_at hl 0 rfl) ?_
  refine va_get (D := D) (ci := 6) (v := .ref c0) (C := RX8) (T := TX8) (N := 8) hx hb hts (by decide +kernel) hown hK hP 0 rfl rfl 0 (by decide) (hts (.fieldLink RX8 12 "Shingletrack" "channel" "LShingletrack$Channel;") (by decide +kernel)) (fun _ h9 => h9) rfl dX8_guess_1 ?_
  refine wu_calli (wr := [(ob, .inr (6, [.ref c0, .ref bu, .ref pl, .ref se, .int 0, .int 20, .int 0, .int 0]))]) (wn := [(ob, .inr (6, [.ref c0, .ref bu, .ref pl, .ref se, .int 0, .int 20, .int 0, .int 0])), (c0, .inr (1, [.ref a1, .int 0, .ref a3, .ref a5, .ref a7, .ref a9])), (a1, .inr (3, [.ref a2])), (a2, .inl (cJ, 12, .inr (.inl sa))), (a3, .inr (3, [.ref a4])), (a4, .inl (cJ, 4, .inr (.inl Q1))), (a5, .inr (3, [.ref a6])), (a6, .inl (cJ, 4, .inr (.inl Q2))), (a7, .inr (3, [.ref a8])), (a8, .inl (cJ, 4, .inr (.inl Q3))), (a9, .inr (3, [.ref a10])), (a10, .inl (cJ, 4, .inr (.inl Q4)))]) (As := []) (rest := []) ⟨hx, hb, hml, hown, hts⟩ (c_X2_bestCells l D cJ c0 a1 a2 a3 a4 a5 a6 a7 a8 a9 a10 cnt hc sa sq nu ns nn Q1 Q2 Q3 Q4 hQ) (cwV 0 hts gX8_guess_X2_bestCells rfl rfl rfl (by decide +kernel) ⟨(Nat.le_of_ble_eq_true rfl), (Nat.le_of_ble_eq_true rfl)⟩) (va_recv hK hP (ci := 1) (q0 := 1) rfl rfl) rfl hl.1 (lv_room (Nat.le_of_ble_eq_true rfl)) dX8_guess_4 ⟨(Nat.le_of_ble_eq_true rfl), (Nat.le_of_ble_eq_true rfl)⟩ hS hA rfl hK hP hD [1, 2, 3, 4, 5, 6, 7, 8, 9, 10, 11] [0] [0, 1, 2, 3, 4, 5, 6, 7, 8, 9, 10, 11] rfl rfl (by decide) rfl (by decide) (by decide) rfl rfl (by decide) (fun H locs hP hD hS => ?_)
  exact W.iret (v := ((fAt 4 Q2 (kBe Q1 Q2 3 1 0)).toInt32)) hx hb hr (fun t ht hW => ⟨⟨((fAt 4 Q2 (kBe Q1 Q2 3 1 0)).toInt32), [(ob, .inr (6, [.ref c0, .ref bu, .ref pl, .ref se, .int 0, .int 20, .int 0, .int 0])), (c0, .inr (1, [.ref a1, .int 0, .ref a3, .ref a5, .ref a7, .ref a9])), (a1, .inr (3, [.ref a2])), (a2, .inl (cJ, 12, .inr (.inl sa))), (a3, .inr (3, [.ref a4])), (a4, .inl (cJ, 4, .inr (.inl Q1))), (a5, .inr (3, [.ref a6])), (a6, .inl (cJ, 4, .inr (.inl Q2))), (a7, .inr (3, [.ref a8])), (a8, .inl (cJ, 4, .inr (.inl Q3))), (a9, .inr (3, [.ref a10])), (a10, .inl (cJ, 4, .inr (.inl Q4)))], rfl, ⟨rfl, rfl⟩, (by rw [ht]; exact hP), va_K.moved hW.alike hK, hD⟩, hS.F ht⟩) hS.2.2 dX8_guess_7
