/-! isSound on a disk on which nothing was written: what it reads -/
def rcK_i (l : Launch) (y : MethodName) (ws : List Cond) (rm : Room) (av : List Value) (D : va_G) (cJ : ClassId) (w : va_W) (K : State → Prop) (f : Int32) : Prop := ∀ H0 : Heap, Met l y ws rm (va_Pc av (fun U => U.heap = H0 ∧ va_P D vwCl w U.heap ∧ va_K D vwCl [(cJ, .long)] U ∧ K U)) (va_Qi (fun (r : Int32) (_ : Unit) => r = f) (fun _ t => t.heap = H0) (fun q => H0.size ≤ q)) 0 0 (fun q => H0.size ≤ q)
def nkZone (U : State) : Prop := va_Nw (.fieldLinkNest RX8 151 "Shingletrack$Platter" "zone" "LShingletrack$Store;" "Shingletrack") U
theorem nkZone_warm {s U : State} (hW : s.WarmedH U.vm) (h : nkZone s) : nkZone U := va_Nw.warmF hW h
theorem nkZone_same {u U : State} (h : u.vm = U.vm) (hk : nkZone u) : nkZone U := va_Nw.same rfl h hk
section HZ
variable {p : Program} {l : Launch} {e : Env} {R : Room} {s : State} {m : MethodId} {args : Array Value} {below : List Frame} {meth : Method} {c : Code} {H : Heap} {locs : List Loc} {cells slots : Nat} {Q : State → Prop}
variable {y : MethodName} {bytes cc : ByteArray} {maxL nL n index : Nat} {ret : Option FieldType} {ws : List Cond} {rm : Room} {Ts : List Cond} {own C : String} {As rest : List Value} {pc : Nat} {ls : Array Slot} {st0 : List Value} {A0 : Nat → Prop} {H0 : Heap} {b : Nat} {D : va_G} {cJ : ClassId} {w : va_W}
theorem ruK_calli {K : State → Prop} {f : Int32} (S : CallFix p m c cc nL s args Ts own) (hM : rcK_i l y ws rm (.ref b :: As) D cJ w K f) (hbl : ∀ (U : State) (g : JFrame) (mk : MethodId) (a : Array Value), K U → K (U.calling g mk a)) (hKs : ∀ U : State, s.WarmedH U.vm → K U) (cw : CallW R s args own C index y bytes maxL ret ws rm 0 0 n) (hrec : ∃ cellB : Cell, H[b]? = some cellB ∧ cellB.vm.isStatics = false ∧ s.vm.findClass C = some cellB.cls) (hn : As.length = n) (hsize : ls.size = nL)
    (hW : 2 * (F0 m pc ls st0).monitorRoom + (rest.map fun v => v.category).sum ≤ 8) (hdg : decode cc pc = .ok (.invokevirtual index, 3)) (hf : cells + 0 ≤ R.cells ∧ slots + 0 ≤ R.slots) (hS : va_S A0 H0 H locs) (hA : ∀ q, H0.size ≤ q → A0 q) (hst : st0 = As.reverse ++ .ref b :: rest) (hK : va_K D vwCl [(cJ, .long)] s) (hP : va_P D vwCl w H)
    (kk : ∀ locs1 : List Loc, va_S A0 H0 H locs1 → W p l e R s m args below meth c H locs1 cells slots Q (F0 m (pc + 3) ls (.int f :: rest))) : W p l e R s m args below meth c H locs cells slots Q (F0 m pc ls st0) := by
  refine va_calli (A1 := fun q => H.size ≤ q) (va_runV S (hM H) cw ⟨fun a U g mk q => ⟨q.1, q.2.1, q.2.2.1, va_K.moved (u := U) (U := U.calling g mk a) (Vm.Alike.refl U.vm) q.2.2.2.1, hbl U g mk a q.2.2.2.2⟩, hrec, fun U hU hW => ⟨rfl, hU, by rw [hU]; exact hP, va_K.moved hW.alike hK, hKs U hW⟩⟩ rfl hn hsize hst hW hdg hf) hS (fun q h1 h2 => absurd h1 (Nat.not_lt.mpr h2)) (fun q h => hA q (Nat.le_trans hS.1 h)) (fun r u t H1 locs1 ht hvm hp hB hz hk hS1 => ?_)
  have e1 : H1 = H := ht.symm.trans hB
  subst e1
  have e2 : r = f := hp
  subst e2
  exact kk locs1 hS1
end HZ
set_option maxHeartbeats 4000000 in
set_option maxRecDepth 100000 in
theorem c_X6_has (l : Launch) (D : va_G) (cJ : ClassId) (h0 wd wk a : Nat) (f : Nat → Int64) (i : Int32) : rc_i l yX6_has wsX6_has ({ frames := 1, cells := 0, slots := 0, locals := 21 } : Room) [.ref h0, .int i] D cJ [(h0, .inr (5, [.ref wd, .ref wk])), (wd, .inr (3, [.ref a])), (a, .inl (cJ, 60, .inr (.inl f)))] (if fAt 60 f i = -1 then 0 else 1) := by
  intro H0
  refine Met.ofW (cc := cX6_has) (maxL := 2) (ret := (some .boolean)) (by decide) rfl ?_
  intro p e s m args below meth c s₁ B hml hv
  obtain ⟨rfl, rfl, hP, hK⟩ := hv
  have hx := B.exec
  have hb := B.bytes
  have hr := B.returns
  have hts := atoms_spec (ws := wsX6_has) B.pre
  have hown : s.vm.findClass RX6 = some m.cls := findClass_of_methodNamed B.named
  have hlocks := B.notSynchronized
  have hS : va_S (fun q => s.heap.size ≤ q) s.heap s.heap [] := va_S.rf
  have hA : ∀ q : Nat, s.heap.size ≤ q → (fun q : Nat => s.heap.size ≤ q) q := fun _ h => h
  have hl := lv_entry ([.ref h0, .int i]) (n := 2) (Nat.le_of_ble_eq_true rfl)
  rw [lg_entry_eq]
  generalize (lg_sl ([.ref h0, .int i]) ++ List.replicate (2 - (lg_sl ([.ref h0, .int i])).length) Slot.unset).toArray = ls at hl ⊢
  have hl : lv_has ls 2 [(0, .ref h0), (1, .int i)] := hl
  refine lv_aload_n hx hb dX6_has_0 rfl (lv_at hl 0 rfl) ?_
  refine va_get (D := D) (ci := 5) (v := .ref wd) (C := RX6) (T := TX6) (N := 2) hx hb hts (by decide +kernel) hown hK hP 0 rfl rfl 0 (by decide) (hts (.fieldLink RX6 14 "Shingletrack$Store" "words" "LShingletrack$Row;") (by decide +kernel)) (fun _ h9 => h9) rfl dX6_has_1 ?_
  refine lv_iload_n hx hb dX6_has_4 rfl (lv_at hl 1 rfl) ?_
  refine ru_calll (As := [.int i]) (rest := []) ⟨hx, hb, hml, hown, hts⟩ (c_X4_at l D cJ wd a 60 (by decide) f i) (cwV 1 hts gX6_has_X4_at rfl rfl rfl (by decide +kernel) ⟨(Nat.le_of_ble_eq_true rfl), (Nat.le_of_ble_eq_true rfl)⟩) (va_recv hK hP (ci := 3) (q0 := 1) rfl rfl) rfl hl.1 (lv_room (Nat.le_of_ble_eq_true rfl)) dX6_has_5 ⟨(Nat.le_of_ble_eq_true rfl), (Nat.le_of_ble_eq_true rfl)⟩ hS hA rfl hK (hP.sub [1, 2] rfl) (fun locs hS => ?_)
  refine lv_ldc2 (v := (-1)) hx hb hown (hts (.constantLong RX6 23 (-1)) (by decide +kernel)) dX6_has_8 ?_
  refine W.lcmp hx hb dX6_has_11 ?_
  refine lv_if_eq (tgt := 19) hx hb dX6_has_12 (by decide) (fun c_12 => ?_) (fun c_12 => ?_)
  · refine lv_iconst (v := 0) hx hb dX6_has_19 (by decide) ?_
    exact W.zret (v := 0) hx hb hr (by first | rfl | decide) (fun t ht hW => ⟨⟨0, (), rfl, (if_pos ((lg_cmp_eq _ _).mp c_12)).symm, ht⟩, hS.F ht⟩) hS.2.2 dX6_has_20
  · refine lv_iconst (v := 1) hx hb dX6_has_15 (by decide) ?_
    refine lv_goto (tgt := 20) hx hb dX6_has_16 (by decide) ?_
    exact W.zret (v := 1) hx hb hr (by first | rfl | decide) (fun t ht hW => ⟨⟨1, (), rfl, (if_neg (fun h => c_12 ((lg_cmp_eq _ _).mpr h))).symm, ht⟩, hS.F ht⟩) hS.2.2 dX6_has_20
set_option maxHeartbeats 4000000 in
set_option maxRecDepth 100000 in
theorem c_X6_size (l : Launch) (D : va_G) (cJ : ClassId) (h0 wd wk a : Nat) (f : Nat → Int64) (hf : ∀ k, k < 60 → fAt 60 f (nI k) = -1) : rc_i l yX6_size wsX6_size ({ frames := 2, cells := 0, slots := 0, locals := 42 } : Room) [.ref h0] D cJ [(h0, .inr (5, [.ref wd, .ref wk])), (wd, .inr (3, [.ref a])), (a, .inl (cJ, 60, .inr (.inl f)))] 0 := by
  intro H0
  refine Met.ofW (cc := cX6_size) (maxL := 3) (ret := (some .int)) (by decide) rfl ?_
  intro p e s m args below meth c s₁ B hml hv
  obtain ⟨rfl, rfl, hP, hK⟩ := hv
  have hx := B.exec
  have hb := B.bytes
  have hr := B.returns
  have hts := atoms_spec (ws := wsX6_size) B.pre
  have hown : s.vm.findClass RX6 = some m.cls := findClass_of_methodNamed B.named
  have hlocks := B.notSynchronized
  have hS : va_S (fun q => s.heap.size ≤ q) s.heap s.heap [] := va_S.rf
  have hA : ∀ q : Nat, s.heap.size ≤ q → (fun q : Nat => s.heap.size ≤ q) q := fun _ h => h
  have hl := lv_entry ([.ref h0]) (n := 3) (Nat.le_of_ble_eq_true rfl)
  rw [lg_entry_eq]
  generalize (lg_sl ([.ref h0]) ++ List.replicate (3 - (lg_sl ([.ref h0])).length) Slot.unset).toArray = ls at hl ⊢
  have hl : lv_has ls 3 [(0, .ref h0)] := hl
  have l1 : ∀ (n k : Nat) , k + n = 60 → ∀ (locs : List Loc) (ls : Array Slot), va_S (fun q => s.heap.size ≤ q) s.heap s.heap locs → lv_has ls 3 [(0, .ref h0), (1, .int 0), (2, .int (nI k))] → W p l e (headSpec wsX6_size ({ frames := 2, cells := 0, slots := 0, locals := 42 } : Room)).room s m ([.ref h0] : List Value).toArray below meth c s.heap locs 0 0 (MQ below (va_Qi (fun (r : Int32) (_ : Unit) => r = 0) (fun _ t => t.heap = s.heap) (fun q => s.heap.size ≤ q)) ([.ref h0] : List Value).toArray s 0 0 (fun q => s.heap.size ≤ q)) (F0 m 4 ls []) := by
    intro n
    induction n with
    | zero =>
      intro k  hk_l1   locs ls hS hl
      obtain rfl : k = 60 := by omega
      refine lv_iload_n hx hb dX6_size_4 rfl (lv_at hl 2 rfl) ?_
      refine lv_bipush (v := 60) hx hb dX6_size_5 (by decide) ?_
      refine lv_icmp_ge (tgt := 27) hx hb dX6_size_7 (by decide) (fun c_7 => ?_) (fun c_7 => absurd c_7 (by decide))
      refine lv_iload_n hx hb dX6_size_27 rfl (lv_at hl 1 rfl) ?_
      exact W.iret (v := 0) hx hb hr (fun t ht hW => ⟨⟨0, (), rfl, rfl, ht⟩, hS.F ht⟩) hS.2.2 dX6_size_28
    | succ n ih =>
      intro k  hk_l1   locs ls hS hl
      refine lv_iload_n hx hb dX6_size_4 rfl (lv_at hl 2 rfl) ?_
      refine lv_bipush (v := 60) hx hb dX6_size_5 (by decide) ?_
      refine lv_icmp_ge (tgt := 27) hx hb dX6_size_7 (by decide) (fun c_7 => absurd c_7 (nI_ge (a := k) (b := 60) (by omega) (by omega))) (fun c_7 => ?_)
      refine lv_aload_n hx hb dX6_size_10 rfl (lv_at hl 0 rfl) ?_
      refine lv_iload_n hx hb dX6_size_11 rfl (lv_at hl 2 rfl) ?_
      refine ru_calli (As := [.int (nI k)]) (rest := []) ⟨hx, hb, hml, hown, hts⟩ (c_X6_has l D cJ h0 wd wk a f (nI k)) (cwV 1 hts gX6_size_X6_has rfl rfl rfl (by decide +kernel) ⟨(Nat.le_of_ble_eq_true rfl), (Nat.le_of_ble_eq_true rfl)⟩) (va_recv hK hP (ci := 5) (q0 := 0) rfl rfl) rfl hl.1 (lv_room (Nat.le_of_ble_eq_true rfl)) dX6_size_12 ⟨(Nat.le_of_ble_eq_true rfl), (Nat.le_of_ble_eq_true rfl)⟩ hS hA rfl hK (hP.sub [0, 1, 2] rfl) (fun locs hS => ?_)
      refine lv_if_eq (tgt := 21) hx hb dX6_size_15 (by decide) (fun c_15 => ?_) (fun c_15 => absurd c_15 (fun h => h (if_pos (hf k (by omega)))))
      refine lv_iinc (v := nI (k + 1)) (lv' := [(2, .int (nI (k + 1))), (0, .ref h0), (1, .int 0)]) hx hb dX6_size_21 hl (k := 2) rfl (nI_1 _) (by decide) rfl (fun ls hl => ?_)
      refine lv_goto (tgt := 4) hx hb dX6_size_24 (by decide) ?_
      exact ih (k + 1) (by omega) _ ls hS (lv_sub hl [1, 2, 0] rfl)
  refine lv_iconst (v := 0) hx hb dX6_size_0 (by decide) ?_
  refine lv_istore_n (lv' := [(1, .int 0), (0, .ref h0)]) hx hb dX6_size_1 rfl hl (by decide) rfl (fun ls hl => ?_)
  refine lv_iconst (v := 0) hx hb dX6_size_2 (by decide) ?_
  refine lv_istore_n (lv' := [(2, .int 0), (1, .int 0), (0, .ref h0)]) hx hb dX6_size_3 rfl hl (by decide) rfl (fun ls hl => ?_)
  exact l1 60 0 rfl _ ls hS (lv_sub hl [2, 1, 0] rfl)
set_option maxHeartbeats 4000000 in
set_option maxRecDepth 100000 in
theorem c_X3_keepsWhatWasSent (l : Launch) (D : va_G) (cJ : ClassId) (pl bs zo p2 p3 p4 p5 sn p7 : Nat) (a : Nat) (f : Nat → Int64) (hf : ∀ k, k < 60 → fAt 60 f (nI k) = -1) : rc_i l yX3_keepsWhatWasSent wsX3_keepsWhatWasSent ({ frames := 1, cells := 0, slots := 0, locals := 21 } : Room) [.ref pl] D cJ [(pl, .inr (2, [.ref bs, .ref zo, .ref p2, .ref p3, .ref p4, .ref p5, .ref sn, .ref p7, .int 0, .int 0, .int 0, .int 0, .int 0])), (sn, .inr (3, [.ref a])), (a, .inl (cJ, 60, .inr (.inl f)))] 1 := by
  intro H0
  refine Met.ofW (cc := cX3_keepsWhatWasSent) (maxL := 3) (ret := (some .boolean)) (by decide) rfl ?_
  intro p e s m args below meth c s₁ B hml hv
  obtain ⟨rfl, rfl, hP, hK⟩ := hv
  have hx := B.exec
  have hb := B.bytes
  have hr := B.returns
  have hts := atoms_spec (ws := wsX3_keepsWhatWasSent) B.pre
  have hown : s.vm.findClass RX3 = some m.cls := findClass_of_methodNamed B.named
  have hlocks := B.notSynchronized
  have hS : va_S (fun q => s.heap.size ≤ q) s.heap s.heap [] := va_S.rf
  have hA : ∀ q : Nat, s.heap.size ≤ q → (fun q : Nat => s.heap.size ≤ q) q := fun _ h => h
  have hl := lv_entry ([.ref pl]) (n := 3) (Nat.le_of_ble_eq_true rfl)
  rw [lg_entry_eq]
  generalize (lg_sl ([.ref pl]) ++ List.replicate (3 - (lg_sl ([.ref pl])).length) Slot.unset).toArray = ls at hl ⊢
  have hl : lv_has ls 3 [(0, .ref pl)] := hl
  have l1 : ∀ (n k : Nat) , k + n = 60 → ∀ (locs : List Loc) (ls : Array Slot), va_S (fun q => s.heap.size ≤ q) s.heap s.heap locs → lv_has ls 3 [(0, .ref pl), (1, .int (nI k))] → W p l e (headSpec wsX3_keepsWhatWasSent ({ frames := 1, cells := 0, slots := 0, locals := 21 } : Room)).room s m ([.ref pl] : List Value).toArray below meth c s.heap locs 0 0 (MQ below (va_Qi (fun (r : Int32) (_ : Unit) => r = 1) (fun _ t => t.heap = s.heap) (fun q => s.heap.size ≤ q)) ([.ref pl] : List Value).toArray s 0 0 (fun q => s.heap.size ≤ q)) (F0 m 2 ls []) := by
    intro n
    induction n with
    | zero =>
      intro k  hk_l1   locs ls hS hl
      obtain rfl : k = 60 := by omega
      refine lv_iload_n hx hb dX3_keepsWhatWasSent_2 rfl (lv_at hl 1 rfl) ?_
      refine lv_bipush (v := 60) hx hb dX3_keepsWhatWasSent_3 (by decide) ?_
      refine lv_icmp_ge (tgt := 71) hx hb dX3_keepsWhatWasSent_5 (by decide) (fun c_5 => ?_) (fun c_5 => absurd c_5 (by decide))
      refine lv_iconst (v := 1) hx hb dX3_keepsWhatWasSent_71 (by decide) ?_
      exact W.zret (v := 1) hx hb hr (by first | rfl | decide) (fun t ht hW => ⟨⟨1, (), rfl, rfl, ht⟩, hS.F ht⟩) hS.2.2 dX3_keepsWhatWasSent_72
    | succ n ih =>
      intro k  hk_l1   locs ls hS hl
      refine lv_iload_n hx hb dX3_keepsWhatWasSent_2 rfl (lv_at hl 1 rfl) ?_
      refine lv_bipush (v := 60) hx hb dX3_keepsWhatWasSent_3 (by decide) ?_
      refine lv_icmp_ge (tgt := 71) hx hb dX3_keepsWhatWasSent_5 (by decide) (fun c_5 => absurd c_5 (nI_ge (a := k) (b := 60) (by omega) (by omega))) (fun c_5 => ?_)
      refine lv_aload_n hx hb dX3_keepsWhatWasSent_8 rfl (lv_at hl 0 rfl) ?_
      refine va_get (D := D) (ci := 2) (v := .ref sn) (C := RX3) (T := TX3) (N := 13) hx hb hts (by decide +kernel) hown hK hP 0 rfl rfl 6 (by decide) (hts (.fieldLink RX3 39 "Shingletrack$Platter" "lastSent" "LShingletrack$Row;") (by decide +kernel)) (fun _ h9 => h9) rfl dX3_keepsWhatWasSent_9 ?_
      refine lv_iload_n hx hb dX3_keepsWhatWasSent_12 rfl (lv_at hl 1 rfl) ?_
      refine ru_calll (As := [.int (nI k)]) (rest := []) ⟨hx, hb, hml, hown, hts⟩ (c_X4_at l D cJ sn a 60 (by decide) f (nI k)) (cwV 1 hts gX3_keepsWhatWasSent_X4_at rfl rfl rfl (by decide +kernel) ⟨(Nat.le_of_ble_eq_true rfl), (Nat.le_of_ble_eq_true rfl)⟩) (va_recv hK hP (ci := 3) (q0 := 1) rfl rfl) rfl hl.1 (lv_room (Nat.le_of_ble_eq_true rfl)) dX3_keepsWhatWasSent_13 ⟨(Nat.le_of_ble_eq_true rfl), (Nat.le_of_ble_eq_true rfl)⟩ hS hA rfl hK (hP.sub [1, 2] rfl) (fun locs hS => ?_)
      refine lv_ldc2 (v := (-1)) hx hb hown (hts (.constantLong RX3 62 (-1)) (by decide +kernel)) dX3_keepsWhatWasSent_16 ?_
      refine W.lcmp hx hb dX3_keepsWhatWasSent_19 ?_
      refine lv_if_eq (tgt := 49) hx hb dX3_keepsWhatWasSent_20 (by decide) (fun c_20 => ?_) (fun c_20 => absurd c_20 (fun h => h ((lg_cmp_eq _ _).mpr (hf k (by omega)))))
      refine lv_iconst (v := 0) hx hb dX3_keepsWhatWasSent_49 (by decide) ?_
      refine lv_istore_n (lv' := [(2, .int 0), (0, .ref pl), (1, .int (nI k))]) hx hb dX3_keepsWhatWasSent_50 rfl hl (by decide) rfl (fun ls hl => ?_)
      refine lv_iload_n hx hb dX3_keepsWhatWasSent_51 rfl (lv_at hl 0 rfl) ?_
      refine lv_if_eq (tgt := 65) hx hb dX3_keepsWhatWasSent_52 (by decide) (fun c_52 => ?_) (fun c_52 => absurd c_52 (by decide))
      refine lv_iinc (v := nI (k + 1)) (lv' := [(1, .int (nI (k + 1))), (2, .int 0), (0, .ref pl)]) hx hb dX3_keepsWhatWasSent_65 hl (k := 2) rfl (nI_1 _) (by decide) rfl (fun ls hl => ?_)
      refine lv_goto (tgt := 2) hx hb dX3_keepsWhatWasSent_68 (by decide) ?_
      exact ih (k + 1) (by omega) _ ls hS (lv_sub hl [2, 0] rfl)
  refine lv_iconst (v := 0) hx hb dX3_keepsWhatWasSent_0 (by decide) ?_
  refine lv_istore_n (lv' := [(1, .int 0), (0, .ref pl)]) hx hb dX3_keepsWhatWasSent_1 rfl hl (by decide) rfl (fun ls hl => ?_)
  exact l1 60 0 rfl _ ls hS (lv_sub hl [1, 0] rfl)
set_option maxHeartbeats 4000000 in
set_option maxRecDepth 100000 in
theorem c_X3_endsHold (l : Launch) (D : va_G) (cJ : ClassId) (pl bs zo p2 p3 p4 p5 sn p7 : Nat) (wd wk a : Nat) (f : Nat → Int64) (hf : ∀ k, k < 60 → fAt 60 f (nI k) = -1) : rc_i l yX3_endsHold wsX3_endsHold ({ frames := 2, cells := 0, slots := 0, locals := 42 } : Room) [.ref pl] D cJ [(pl, .inr (2, [.ref bs, .ref zo, .ref p2, .ref p3, .ref p4, .ref p5, .ref sn, .ref p7, .int 0, .int 0, .int 0, .int 0, .int 0])), (bs, .inr (5, [.ref wd, .ref wk])), (wd, .inr (3, [.ref a])), (a, .inl (cJ, 60, .inr (.inl f)))] 1 := by
  intro H0
  refine Met.ofW (cc := cX3_endsHold) (maxL := 2) (ret := (some .boolean)) (by decide) rfl ?_
  intro p e s m args below meth c s₁ B hml hv
  obtain ⟨rfl, rfl, hP, hK⟩ := hv
  have hx := B.exec
  have hb := B.bytes
  have hr := B.returns
  have hts := atoms_spec (ws := wsX3_endsHold) B.pre
  have hown : s.vm.findClass RX3 = some m.cls := findClass_of_methodNamed B.named
  have hlocks := B.notSynchronized
  have hS : va_S (fun q => s.heap.size ≤ q) s.heap s.heap [] := va_S.rf
  have hA : ∀ q : Nat, s.heap.size ≤ q → (fun q : Nat => s.heap.size ≤ q) q := fun _ h => h
  have hl := lv_entry ([.ref pl]) (n := 2) (Nat.le_of_ble_eq_true rfl)
  rw [lg_entry_eq]
  generalize (lg_sl ([.ref pl]) ++ List.replicate (2 - (lg_sl ([.ref pl])).length) Slot.unset).toArray = ls at hl ⊢
  have hl : lv_has ls 2 [(0, .ref pl)] := hl
  have l1 : ∀ (n k : Nat) , k + n = 60 → ∀ (locs : List Loc) (ls : Array Slot), va_S (fun q => s.heap.size ≤ q) s.heap s.heap locs → lv_has ls 2 [(0, .ref pl), (1, .int (nI k))] → W p l e (headSpec wsX3_endsHold ({ frames := 2, cells := 0, slots := 0, locals := 42 } : Room)).room s m ([.ref pl] : List Value).toArray below meth c s.heap locs 0 0 (MQ below (va_Qi (fun (r : Int32) (_ : Unit) => r = 1) (fun _ t => t.heap = s.heap) (fun q => s.heap.size ≤ q)) ([.ref pl] : List Value).toArray s 0 0 (fun q => s.heap.size ≤ q)) (F0 m 2 ls []) := by
    intro n
    induction n with
    | zero =>
      intro k  hk_l1   locs ls hS hl
      obtain rfl : k = 60 := by omega
      refine lv_iload_n hx hb dX3_endsHold_2 rfl (lv_at hl 1 rfl) ?_
      refine lv_bipush (v := 60) hx hb dX3_endsHold_3 (by decide) ?_
      refine lv_icmp_ge (tgt := 42) hx hb dX3_endsHold_5 (by decide) (fun c_5 => ?_) (fun c_5 => absurd c_5 (by decide))
      refine lv_iconst (v := 1) hx hb dX3_endsHold_42 (by decide) ?_
      exact W.zret (v := 1) hx hb hr (by first | rfl | decide) (fun t ht hW => ⟨⟨1, (), rfl, rfl, ht⟩, hS.F ht⟩) hS.2.2 dX3_endsHold_43
    | succ n ih =>
      intro k  hk_l1   locs ls hS hl
      refine lv_iload_n hx hb dX3_endsHold_2 rfl (lv_at hl 1 rfl) ?_
      refine lv_bipush (v := 60) hx hb dX3_endsHold_3 (by decide) ?_
      refine lv_icmp_ge (tgt := 42) hx hb dX3_endsHold_5 (by decide) (fun c_5 => absurd c_5 (nI_ge (a := k) (b := 60) (by omega) (by omega))) (fun c_5 => ?_)
      refine lv_aload_n hx hb dX3_endsHold_8 rfl (lv_at hl 0 rfl) ?_
      refine va_get (D := D) (ci := 2) (v := .ref bs) (C := RX3) (T := TX3) (N := 13) hx hb hts (by decide +kernel) hown hK hP 0 rfl rfl 0 (by decide) (hts (.fieldLink RX3 12 "Shingletrack$Platter" "bandStore" "LShingletrack$Store;") (by decide +kernel)) (fun _ h9 => h9) rfl dX3_endsHold_9 ?_
      refine lv_iload_n hx hb dX3_endsHold_12 rfl (lv_at hl 1 rfl) ?_
      refine ru_calli (As := [.int (nI k)]) (rest := []) ⟨hx, hb, hml, hown, hts⟩ (c_X6_has l D cJ bs wd wk a f (nI k)) (cwV 1 hts gX3_endsHold_X6_has rfl rfl rfl (by decide +kernel) ⟨(Nat.le_of_ble_eq_true rfl), (Nat.le_of_ble_eq_true rfl)⟩) (va_recv hK hP (ci := 5) (q0 := 1) rfl rfl) rfl hl.1 (lv_room (Nat.le_of_ble_eq_true rfl)) dX3_endsHold_13 ⟨(Nat.le_of_ble_eq_true rfl), (Nat.le_of_ble_eq_true rfl)⟩ hS hA rfl hK (hP.sub [1, 2, 3] rfl) (fun locs hS => ?_)
      refine lv_if_eq (tgt := 36) hx hb dX3_endsHold_16 (by decide) (fun c_16 => ?_) (fun c_16 => absurd c_16 (fun h => h (if_pos (hf k (by omega)))))
      refine lv_iinc (v := nI (k + 1)) (lv' := [(1, .int (nI (k + 1))), (0, .ref pl)]) hx hb dX3_endsHold_36 hl (k := 1) rfl (nI_1 _) (by decide) rfl (fun ls hl => ?_)
      refine lv_goto (tgt := 2) hx hb dX3_endsHold_39 (by decide) ?_
      exact ih (k + 1) (by omega) _ ls hS (lv_sub hl [1, 0] rfl)
  refine lv_iconst (v := 0) hx hb dX3_endsHold_0 (by decide) ?_
  refine lv_istore_n (lv' := [(1, .int 0), (0, .ref pl)]) hx hb dX3_endsHold_1 rfl hl (by decide) rfl (fun ls hl => ?_)
  exact l1 60 0 rfl _ ls hS (lv_sub hl [1, 0] rfl)
set_option maxHeartbeats 4000000 in
set_option maxRecDepth 100000 in
theorem c_X0_holdsEachOnce (l : Launch) (D : va_G) (cJ : ClassId) (bu b1 b2 : Nat) : rc_i l yX0_holdsEachOnce wsX0_holdsEachOnce ({ frames := 0, cells := 0, slots := 0, locals := 0 } : Room) [.ref bu] D cJ [(bu, .inr (0, [.ref b1, .ref b2, .int 0]))] 1 := by
  intro H0
  refine Met.ofW (cc := cX0_holdsEachOnce) (maxL := 2) (ret := (some .boolean)) (by decide) rfl ?_
  intro p e s m args below meth c s₁ B hml hv
  obtain ⟨rfl, rfl, hP, hK⟩ := hv
  have hx := B.exec
  have hb := B.bytes
  have hr := B.returns
  have hts := atoms_spec (ws := wsX0_holdsEachOnce) B.pre
  have hown : s.vm.findClass RX0 = some m.cls := findClass_of_methodNamed B.named
  have hlocks := B.notSynchronized
  have hS : va_S (fun q => s.heap.size ≤ q) s.heap s.heap [] := va_S.rf
  have hA : ∀ q : Nat, s.heap.size ≤ q → (fun q : Nat => s.heap.size ≤ q) q := fun _ h => h
  have hl := lv_entry ([.ref bu]) (n := 2) (Nat.le_of_ble_eq_true rfl)
  rw [lg_entry_eq]
  generalize (lg_sl ([.ref bu]) ++ List.replicate (2 - (lg_sl ([.ref bu])).length) Slot.unset).toArray = ls at hl ⊢
  have hl : lv_has ls 2 [(0, .ref bu)] := hl
  refine lv_iconst (v := 0) hx hb dX0_holdsEachOnce_0 (by decide) ?_
  refine lv_istore_n (lv' := [(1, .int 0), (0, .ref bu)]) hx hb dX0_holdsEachOnce_1 rfl hl (by decide) rfl (fun ls hl => ?_)
  refine lv_iload_n hx hb dX0_holdsEachOnce_2 rfl (lv_at hl 0 rfl) ?_
  refine lv_aload_n hx hb dX0_holdsEachOnce_3 rfl (lv_at hl 1 rfl) ?_
  refine va_get (D := D) (ci := 0) (v := .int 0) (C := RX0) (T := TX0) (N := 3) hx hb hts (by decide +kernel) hown hK hP 0 rfl rfl 2 (by decide) (hts (.fieldLink RX0 23 "Shingletrack$Buffer" "sectorsThere" "I") (by decide +kernel)) (fun _ h9 => h9) rfl dX0_holdsEachOnce_4 ?_
  refine lv_icmp_ge (tgt := 34) hx hb dX0_holdsEachOnce_7 (by decide) (fun c_7 => ?_) (fun c_7 => absurd c_7 (by decide))
  refine lv_iconst (v := 1) hx hb dX0_holdsEachOnce_34 (by decide) ?_
  exact W.zret (v := 1) hx hb hr (by first | rfl | decide) (fun t ht hW => ⟨⟨1, (), rfl, rfl, ht⟩, hS.F ht⟩) hS.2.2 dX0_holdsEachOnce_35
set_option maxHeartbeats 4000000 in
set_option maxRecDepth 100000 in
theorem c_X8_isSound (l : Launch) (D : va_G) (cJ : ClassId) (ob ch bu pl se b1 b2 bs zo p2 p3 p4 p5 sn p7 d1 k1 r1 d2 k2 r2 r3 : Nat) (f : Nat → Int64) (hf : ∀ k, k < 60 → fAt 60 f (nI k) = -1) : rcK_i l yX8_isSound wsX8_isSound ({ frames := 3, cells := 0, slots := 0, locals := 64 } : Room) [.ref ob] D cJ [(ob, .inr (6, [.ref ch, .ref bu, .ref pl, .ref se, .int 0, .int 20, .int 0, .int 0])), (bu, .inr (0, [.ref b1, .ref b2, .int 0])), (pl, .inr (2, [.ref bs, .ref zo, .ref p2, .ref p3, .ref p4, .ref p5, .ref sn, .ref p7, .int 0, .int 0, .int 0, .int 0, .int 0])), (bs, .inr (5, [.ref d1, .ref k1])), (d1, .inr (3, [.ref r1])), (r1, .inl (cJ, 60, .inr (.inl f))), (zo, .inr (5, [.ref d2, .ref k2])), (d2, .inr (3, [.ref r2])), (r2, .inl (cJ, 60, .inr (.inl f))), (sn, .inr (3, [.ref r3])), (r3, .inl (cJ, 60, .inr (.inl f)))] nkZone 1 := by
  intro H0
  refine Met.ofW (cc := cX8_isSound) (maxL := 1) (ret := (some .boolean)) (by decide) rfl ?_
  intro p e s m args below meth c s₁ B hml hv
  obtain ⟨rfl, rfl, hP, hK, hN⟩ := hv
  have hx := B.exec
  have hb := B.bytes
  have hr := B.returns
  have hts := atoms_spec (ws := wsX8_isSound) B.pre
  have hown : s.vm.findClass RX8 = some m.cls := findClass_of_methodNamed B.named
  have hlocks := B.notSynchronized
  have hS : va_S (fun q => s.heap.size ≤ q) s.heap s.heap [] := va_S.rf
  have hA : ∀ q : Nat, s.heap.size ≤ q → (fun q : Nat => s.heap.size ≤ q) q := fun _ h => h
  have hl := lv_entry ([.ref ob]) (n := 1) (Nat.le_of_ble_eq_true rfl)
  rw [lg_entry_eq]
  generalize (lg_sl ([.ref ob]) ++ List.replicate (1 - (lg_sl ([.ref ob])).length) Slot.unset).toArray = ls at hl ⊢
  have hl : lv_has ls 1 [(0, .ref ob)] := hl
  refine lv_aload_n hx hb dX8_isSound_0 rfl (lv_at hl 0 rfl) ?_
  refine va_get (D := D) (ci := 6) (v := .ref pl) (C := RX8) (T := TX8) (N := 8) hx hb hts (by decide +kernel) hown hK hP 0 rfl rfl 2 (by decide) (hts (.fieldLink RX8 26 "Shingletrack" "platter" "LShingletrack$Platter;") (by decide +kernel)) (fun _ h9 => h9) rfl dX8_isSound_1 ?_
  refine ru_calli (As := []) (rest := []) ⟨hx, hb, hml, hown, hts⟩ (c_X3_keepsWhatWasSent l D cJ pl bs zo p2 p3 p4 p5 sn p7 r3 f hf) (cwV 0 hts gX8_isSound_X3_keepsWhatWasSent rfl rfl rfl (by decide +kernel) ⟨(Nat.le_of_ble_eq_true rfl), (Nat.le_of_ble_eq_true rfl)⟩) (va_recv hK hP (ci := 2) (q0 := 2) rfl rfl) rfl hl.1 (lv_room (Nat.le_of_ble_eq_true rfl)) dX8_isSound_4 ⟨(Nat.le_of_ble_eq_true rfl), (Nat.le_of_ble_eq_true rfl)⟩ hS hA rfl hK (hP.sub [2, 9, 10] rfl) (fun locs hS => ?_)
  refine lv_if_eq (tgt := 49) hx hb dX8_isSound_7 (by decide) (fun c_7 => absurd c_7 (by decide)) (fun c_7 => ?_)
  refine lv_aload_n hx hb dX8_isSound_10 rfl (lv_at hl 0 rfl) ?_
  refine va_get (D := D) (ci := 6) (v := .ref pl) (C := RX8) (T := TX8) (N := 8) hx hb hts (by decide +kernel) hown hK hP 0 rfl rfl 2 (by decide) (hts (.fieldLink RX8 26 "Shingletrack" "platter" "LShingletrack$Platter;") (by decide +kernel)) (fun _ h9 => h9) rfl dX8_isSound_11 ?_
  refine ru_calli (As := []) (rest := []) ⟨hx, hb, hml, hown, hts⟩ (c_X3_endsHold l D cJ pl bs zo p2 p3 p4 p5 sn p7 d1 k1 r1 f hf) (cwV 0 hts gX8_isSound_X3_endsHold rfl rfl rfl (by decide +kernel) ⟨(Nat.le_of_ble_eq_true rfl), (Nat.le_of_ble_eq_true rfl)⟩) (va_recv hK hP (ci := 2) (q0 := 2) rfl rfl) rfl hl.1 (lv_room (Nat.le_of_ble_eq_true rfl)) dX8_isSound_14 ⟨(Nat.le_of_ble_eq_true rfl), (Nat.le_of_ble_eq_true rfl)⟩ hS hA rfl hK (hP.sub [2, 3, 4, 5] rfl) (fun locs hS => ?_)
  refine lv_if_eq (tgt := 49) hx hb dX8_isSound_17 (by decide) (fun c_17 => absurd c_17 (by decide)) (fun c_17 => ?_)
  refine lv_aload_n hx hb dX8_isSound_20 rfl (lv_at hl 0 rfl) ?_
  refine va_get (D := D) (ci := 6) (v := .ref bu) (C := RX8) (T := TX8) (N := 8) hx hb hts (by decide +kernel) hown hK hP 0 rfl rfl 1 (by decide) (hts (.fieldLink RX8 19 "Shingletrack" "buffer" "LShingletrack$Buffer;") (by decide +kernel)) (fun _ h9 => h9) rfl dX8_isSound_21 ?_
  refine ru_calli (As := []) (rest := []) ⟨hx, hb, hml, hown, hts⟩ (c_X0_holdsEachOnce l D cJ bu b1 b2) (cwV 0 hts gX8_isSound_X0_holdsEachOnce rfl rfl rfl (by decide +kernel) ⟨(Nat.le_of_ble_eq_true rfl), (Nat.le_of_ble_eq_true rfl)⟩) (va_recv hK hP (ci := 0) (q0 := 1) rfl rfl) rfl hl.1 (lv_room (Nat.le_of_ble_eq_true rfl)) dX8_isSound_24 ⟨(Nat.le_of_ble_eq_true rfl), (Nat.le_of_ble_eq_true rfl)⟩ hS hA rfl hK (hP.sub [1] rfl) (fun locs hS => ?_)
  refine lv_if_eq (tgt := 49) hx hb dX8_isSound_27 (by decide) (fun c_27 => absurd c_27 (by decide)) (fun c_27 => ?_)
  refine lv_aload_n hx hb dX8_isSound_30 rfl (lv_at hl 0 rfl) ?_
  refine va_get (D := D) (ci := 6) (v := .ref pl) (C := RX8) (T := TX8) (N := 8) hx hb hts (by decide +kernel) hown hK hP 0 rfl rfl 2 (by decide) (hts (.fieldLink RX8 26 "Shingletrack" "platter" "LShingletrack$Platter;") (by decide +kernel)) (fun _ h9 => h9) rfl dX8_isSound_31 ?_
  refine va_getN (D := D) (ci := 2) (v := .ref zo) (C := RX3) (T := TX3) (N := 13) hx hb hts (by decide +kernel) hown hK hP 2 rfl rfl 1 (by decide) (hN.use rfl) (fun _ h9 => h9) rfl dX8_isSound_34 ?_
  refine ru_calli (As := []) (rest := []) ⟨hx, hb, hml, hown, hts⟩ (c_X6_size l D cJ zo d2 k2 r2 f hf) (cwV 0 hts gX8_isSound_X6_size rfl rfl rfl (by decide +kernel) ⟨(Nat.le_of_ble_eq_true rfl), (Nat.le_of_ble_eq_true rfl)⟩) (va_recv hK hP (ci := 5) (q0 := 6) rfl rfl) rfl hl.1 (lv_room (Nat.le_of_ble_eq_true rfl)) dX8_isSound_37 ⟨(Nat.le_of_ble_eq_true rfl), (Nat.le_of_ble_eq_true rfl)⟩ hS hA rfl hK (hP.sub [6, 7, 8] rfl) (fun locs hS => ?_)
  refine lv_bipush (v := 10) hx hb dX8_isSound_40 (by decide) ?_
  refine lv_icmp_gt (tgt := 49) hx hb dX8_isSound_42 (by decide) (fun c_42 => absurd c_42 (by decide)) (fun c_42 => ?_)
  refine lv_iconst (v := 1) hx hb dX8_isSound_45 (by decide) ?_
  refine lv_goto (tgt := 50) hx hb dX8_isSound_46 (by decide) ?_
  exact W.zret (v := 1) hx hb hr (by first | rfl | decide) (fun t ht hW => ⟨⟨1, (), rfl, rfl, ht⟩, hS.F ht⟩) hS.2.2 dX8_isSound_50
