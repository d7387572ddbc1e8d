/-! rows of laws/BITS.to-paste -/
theorem pf_lI {a : Nat} (h : a < 2 ^ 63) : (lN a).toInt = (a : Int) := lg_ofNat_toInt h
theorem pf_shr {a d : Nat} {D : Int64} (hD : (D.toBitVec.smod 64).toNat = d) (h : a < 2 ^ 62) : lN a >>> D = lN (a / 2 ^ d) := by
  have hd : a / 2 ^ d ≤ a := Nat.div_le_self _ _
  apply Int64.toInt_inj.mp
  have e : (lN a >>> D).toInt = (lN a).toInt >>> d := by
    rw [← hD]
    exact BitVec.toInt_sshiftRight ..
  rw [e, Int.shiftRight_eq_div_pow, pf_lI (by omega), pf_lI (by omega)]
  rfl
/-! The word of a value -/
def wN (V : Nat) : Nat := fiN V (syN V) 240
theorem wN_xor (a b : Nat) : wN (a ^^^ b) = wN a ^^^ wN b := by unfold wN; rw [sy_xor, fi_xor]
theorem wN_0 : wN 0 = 0 := by
  have h := wN_xor 0 0
  rw [Nat.xor_self, Nat.xor_self] at h
  exact h
def chkW : Bool := (List.range 4).all fun p => (List.range 16).all fun v => syN (wN (bp v p)) == 0 && wN (bp v p) % 65536 == bp v p && decide (wN (bp v p) < 2 ^ 32)
theorem chkW_ok : chkW = true := by decide +kernel
theorem wN_ok {p v : Nat} (hp : p < 4) (hv : v < 16) : syN (wN (bp v p)) = 0 ∧ wN (bp v p) % 65536 = bp v p ∧ wN (bp v p) < 2 ^ 32 := by
  have h := range_ok (range_ok chkW_ok hp) hv
  rw [Bool.and_eq_true, Bool.and_eq_true] at h
  exact ⟨eq_of_beq h.1.1, eq_of_beq h.1.2, of_decide_eq_true h.2⟩
theorem xs_4 {V : Nat} (hV : V < 65536) : xs (fun p => bp (nb V p) p) 4 = V := by
  rw [xs_dec]
  exact Nat.mod_eq_of_lt hV
theorem xs_lt {f : Nat → Nat} {m : Nat} : ∀ k, (∀ p, p < k → f p < 2 ^ m) → xs f k < 2 ^ m
  | 0, _ => Nat.pow_pos (by decide)
  | k+1, h => Nat.xor_lt_two_pow (xs_lt k (fun p hp => h p (by omega))) (h k (by omega))
theorem xs_congr {f g : Nat → Nat} : ∀ k, (∀ p, p < k → f p = g p) → xs f k = xs g k
  | 0, _ => rfl
  | k+1, h => by rw [xs, xs, xs_congr k (fun p hp => h p (by omega)), h k (by omega)]
theorem wN_dec {V : Nat} (hV : V < 65536) : wN V = xs (fun p => wN (bp (nb V p) p)) 4 := by
  have h := xs_lin wN wN_xor (fun p => bp (nb V p) p) 4
  rw [xs_4 hV] at h
  exact h
theorem wN_lt {V : Nat} (hV : V < 65536) : wN V < 2 ^ 32 := by
  rw [wN_dec hV]
  exact xs_lt 4 (fun p hp => (wN_ok hp (nb_lt _ _)).2.2)
theorem wN_sy {V : Nat} (hV : V < 65536) : syN (wN V) = 0 := by
  have h := xs_lin (fun n => syN (wN n)) (fun a b => by rw [wN_xor, sy_xor]) (fun p => bp (nb V p) p) 4
  rw [xs_4 hV] at h
  rw [h]
  exact xs_zero _ 4 (fun p hp => (wN_ok hp (nb_lt _ _)).1)
theorem wN_mod {V : Nat} (hV : V < 65536) : wN V % 65536 = V := by
  have h := xs_lin (fun n => wN n % 2 ^ 16) (fun a b => by rw [wN_xor, Nat.xor_mod_two_pow]) (fun p => bp (nb V p) p) 4
  rw [xs_4 hV] at h
  show wN V % 2 ^ 16 = V
  rw [h, xs_congr (g := fun p => bp (nb V p) p) 4 (fun p hp => (wN_ok hp (nb_lt _ _)).2.1)]
  exact xs_4 hV
theorem cOf {V : Nat} (hV : V < 65536) : fOf (nI V) = lN (wN V) := by
  unfold fOf
  rw [nI_l (by omega), cSy (by omega), show (240 : Int32) = nI 240 from rfl, cFill (sy_lt _) (by decide)]
  rfl
theorem cVal {n : Nat} (hn : n < 2 ^ 64) : fVal (lN n) = nI (n % 65536) := by
  unfold fVal
  rw [show (65535 : Int64) = lN (2 ^ 16 - 1) from rfl, wb_mask hn (by decide), lN_i]
theorem wVal {V : Nat} (hV : V < 65536) : fVal (lN (wN V)) = nI V := by
  rw [cVal (Nat.lt_of_lt_of_le (wN_lt hV) (by decide)), wN_mod hV]
theorem lN_nn {n : Nat} (h : n < 2 ^ 32) : ¬ lN n < 0 := by
  rw [show (0 : Int64) = lN 0 from rfl, pk_lLT (by omega) (by decide)]
  omega
theorem lN_top {n : Nat} (h : n < 2 ^ 32) : ¬ 4294967295 < lN n := by
  rw [show (4294967295 : Int64) = lN 4294967295 from rfl, pk_lLT (by decide) (by omega)]
  omega
theorem nI_lnn {k : Nat} (h : k < 2 ^ 31) : ¬ (nI k).toInt64 < 0 := by
  rw [nI_l h]
  exact lN_nn (by omega)
theorem nI_ltop {k M : Nat} (h : k ≤ M) (hM : M < 2 ^ 31) : ¬ lN M < (nI k).toInt64 := by
  rw [nI_l (by omega), pk_lLT (by omega) (by omega)]
  omega
/-! the law's own look at a word -/
theorem gPr_tm : ∀ a, a < 16 → ∀ b, b < 16 → gProd (nI a) (nI b) = nI (tm a b) := by decide +kernel
theorem gNib_nb {n p : Nat} (hn : n < 2 ^ 32) (hp : p < 8) : gNib (lN n) (nI p) = nI (nb n p) := by
  unfold gNib nb
  rw [c4, wb_c _ (by omega), pf_shr (d := 4 * p) (by rw [wb_tb, wb_sm _ (by omega), BitVec.toNat_ofNat]; exact Nat.mod_eq_of_lt (by omega)) (by omega), show (15 : Int64) = lN (2 ^ 4 - 1) from rfl, wb_mask (Nat.lt_of_le_of_lt (Nat.div_le_self _ _) (by omega)) (by decide), lN_i]
def wiN (n root : Nat) : Nat → Nat → Nat → Nat → Nat
  | 0, _, q, _ => q
  | i+1, k, q, fa => wiN n root i (k+1) (q ^^^ tm (nb n k) fa) (tm fa root)
theorem cWI {n root : Nat} (hn : n < 2 ^ 32) (hr : root < 16) : ∀ i k q fa, k + i = 8 → q < 16 → fa < 16 → gWI (lN n) (nI root) i k (nI q) (nI fa) = nI (wiN n root i k q fa)
  | 0, k, q, fa, _, _, _ => rfl
  | i+1, k, q, fa, h, hq, hf => by
    rw [gWI, wiN, gNib_nb hn (by omega), gPr_tm _ (nb_lt _ _) _ hf, gPr_tm _ hf _ hr, nx_xor]
    exact cWI hn hr i (k+1) _ _ (by omega) (x16 hq (tm_lt _ _)) (tm_lt _ _)
theorem wiN_xor (n m root : Nat) : ∀ i k q r fa, fa < 16 → wiN (n ^^^ m) root i k (q ^^^ r) fa = wiN n root i k q fa ^^^ wiN m root i k r fa
  | 0, k, q, r, fa, _ => rfl
  | i+1, k, q, r, fa, hf => by
    rw [wiN, wiN, wiN, nb_xor, tm_xor _ (nb_lt _ _) _ (nb_lt _ _) _ hf, xx4]
    exact wiN_xor n m root i (k+1) _ _ _ (tm_lt _ _)
def chkR : Bool := (List.range 4).all fun j => all8 fun p => (List.range 16).all fun v => wiN (bp v p) (2 ^ j) 8 0 0 1 == hsN (bp v p) j 8 0
theorem chkR_ok : chkR = true := by decide +kernel
theorem wi_hs {n j : Nat} (hn : n < 2 ^ 32) (hj : j < 4) : wiN n (2 ^ j) 8 0 0 1 = hsN n j 8 0 := by
  have h1 := lin_dec (fun n => wiN n (2 ^ j) 8 0 0 1) (fun a b => wiN_xor a b (2 ^ j) 8 0 0 0 1 (by decide)) hn
  have h2 := lin_dec (fun n => hsN n j 8 0) (fun a b => hs_xor a b (pj hj) 8 0 0 (by decide) (by decide)) hn
  rw [show wiN n (2 ^ j) 8 0 0 1 = _ from h1, show hsN n j 8 0 = _ from h2]
  exact xs_congr 8 (fun p hp => eq_of_beq (range_ok (all8_ok (range_ok chkR_ok hj) p hp) (nb_lt _ _)))
def chkN : Bool := (List.range 16).all fun v => all8 fun p => all8 fun q => nb (bp v p) q == if q = p then v else 0
theorem chkN_ok : chkN = true := by decide +kernel
theorem nb_bp {v p q : Nat} (hv : v < 16) (hp : p < 8) (hq : q < 8) : nb (bp v p) q = if q = p then v else 0 := eq_of_beq (all8_ok (all8_ok (range_ok chkN_ok hv) p hp) q hq)
theorem sy_hs {n j : Nat} (hs : syN n = 0) (hj : j < 4) : hsN n j 8 0 = 0 := by
  have h0 := hs_lt n 0 8 0 (by decide)
  have h1 := hs_lt n 1 8 0 (by decide)
  have h2 := hs_lt n 2 8 0 (by decide)
  have h3 := hs_lt n 3 8 0 (by decide)
  have e : syN n = (((0 ^^^ bp (hsN n 0 8 0) 0) ^^^ bp (hsN n 1 8 0) 1) ^^^ bp (hsN n 2 8 0) 2) ^^^ bp (hsN n 3 8 0) 3 := rfl
  have h := congrArg (fun z => nb z j) hs
  rw [e] at h
  simp only [nb_xor, nb_0] at h
  rw [nb_bp h0 (by decide) (by omega), nb_bp h1 (by decide) (by omega), nb_bp h2 (by decide) (by omega), nb_bp h3 (by decide) (by omega)] at h
  rcases (show j = 0 ∨ j = 1 ∨ j = 2 ∨ j = 3 by omega) with rfl | rfl | rfl | rfl <;> simpa using h
theorem gIsW_ok {n : Nat} (hn : n < 2 ^ 32) (hs : syN n = 0) : gIsW (lN n) = 1 := by
  have g : ∀ j, j < 4 → gWI (lN n) (nI (2 ^ j)) 8 0 0 1 = 0 := by
    intro j hj
    have h := cWI hn (pj hj) 8 0 0 1 rfl (by decide) (by decide)
    rw [wi_hs hn hj, sy_hs hs hj] at h
    exact h
  have t1 : gProd 1 2 = nI (2 ^ 1) := by decide +kernel
  have t2 : gProd (nI (2 ^ 1)) 2 = nI (2 ^ 2) := by decide +kernel
  have t3 : gProd (nI (2 ^ 2)) 2 = nI (2 ^ 3) := by decide +kernel
  unfold gIsW
  rw [gWO, gWO, gWO, gWO, t1, t2, t3, gWO, show (1 : Int32) = nI (2 ^ 0) from rfl]
  rw [if_pos (show gWI (lN n) (nI (2 ^ 0)) 8 0 0 (nI (2 ^ 0)) = 0 from g 0 (by decide)), if_pos (show gWI (lN n) (nI (2 ^ 1)) 8 0 0 (nI (2 ^ 0)) = 0 from g 1 (by decide)), if_pos (show gWI (lN n) (nI (2 ^ 2)) 8 0 0 (nI (2 ^ 0)) = 0 from g 2 (by decide)), if_pos (show gWI (lN n) (nI (2 ^ 3)) 8 0 0 (nI (2 ^ 0)) = 0 from g 3 (by decide))]
  decide
/-! how many places are mended -/
theorem x_eq_self {a b : Nat} : a ^^^ b = a ↔ b = 0 := by
  constructor
  · intro h
    have h1 := congrArg (fun z => a ^^^ z) h
    simp only [← Nat.xor_assoc, Nat.xor_self, Nat.zero_xor] at h1
    exact h1
  · intro h
    rw [h, Nat.xor_zero]
theorem diff_ok {n e M : Nat} (hn : n < 2 ^ 32) (he : e < 2 ^ 32) (h : ∀ p, p < 8 → (nb e p ≠ 0 ↔ M.testBit p = true)) : fDiff (lN (n ^^^ e)) (lN n) = nI (pcN M) := by
  have st : ∀ p, p < 8 → ∀ q : Nat, (if nb (n ^^^ e) p = nb n p then q else q + 1) = q + M / 2 ^ p % 2 := by
    intro p hp q
    have h1 := h p hp
    rw [nb_xor]
    by_cases hz : nb e p = 0
    · rw [if_pos (x_eq_self.mpr hz)]
      have h2 : ¬ M / 2 ^ p % 2 = 1 := fun z => (h1.mpr ((tb M p).mp z)) hz
      omega
    · rw [if_neg (fun z => hz (x_eq_self.mp z)), (tb M p).mpr (h1.mp hz)]
  have h2 := cDi (a := n ^^^ e) (b := n) (Nat.lt_of_lt_of_le (x32 hn he) (by decide)) (Nat.lt_of_lt_of_le hn (by decide)) 8 0 0 rfl
  unfold fDiff
  rw [show (0 : Int32) = nI 0 from rfl, h2]
  congr 1
  simp only [diU]
  rw [st 0 (by decide), st 1 (by decide), st 2 (by decide), st 3 (by decide), st 4 (by decide), st 5 (by decide), st 6 (by decide), st 7 (by decide)]
  unfold pcN
  rw [Nat.pow_zero, Nat.div_one, Nat.zero_add]
/-! the sets that the law names -/
def chkM : Bool := all8 fun a => pcN (2 ^ a) == 1 && all8 fun b => a == b || (pcN (2 ^ a ||| 2 ^ b) == 2 && all8 fun c => c == a || c == b || (pcN (2 ^ a ||| 2 ^ b ||| 2 ^ c) == 3 && (2 ^ c &&& (2 ^ a ||| 2 ^ b)) == 0 && all8 fun d => d == a || d == b || d == c || pcN (2 ^ a ||| 2 ^ b ||| 2 ^ c ||| 2 ^ d) == 4))
theorem chkM_ok : chkM = true := by decide +kernel
theorem pw1 {a : Nat} (ha : a < 8) : pcN (2 ^ a) = 1 := by
  have h := all8_ok chkM_ok a ha
  rw [Bool.and_eq_true] at h
  exact eq_of_beq h.1
theorem bf {a b : Nat} (h : a ≠ b) : (a == b) = false := beq_eq_false_iff_ne.mpr h
theorem pw2x {a b : Nat} (ha : a < 8) (hb : b < 8) (hab : a ≠ b) : (pcN (2 ^ a ||| 2 ^ b) == 2 && all8 fun c => c == a || c == b || (pcN (2 ^ a ||| 2 ^ b ||| 2 ^ c) == 3 && (2 ^ c &&& (2 ^ a ||| 2 ^ b)) == 0 && all8 fun d => d == a || d == b || d == c || pcN (2 ^ a ||| 2 ^ b ||| 2 ^ c ||| 2 ^ d) == 4)) = true := by
  have h := all8_ok chkM_ok a ha
  rw [Bool.and_eq_true] at h
  have h2 := all8_ok h.2 b hb
  rw [bf hab, Bool.false_or] at h2
  exact h2
theorem pw2 {a b : Nat} (ha : a < 8) (hb : b < 8) (hab : a ≠ b) : pcN (2 ^ a ||| 2 ^ b) = 2 := by
  have h := pw2x ha hb hab
  rw [Bool.and_eq_true] at h
  exact eq_of_beq h.1
theorem pw3x {a b c : Nat} (ha : a < 8) (hb : b < 8) (hc : c < 8) (hab : a ≠ b) (hca : c ≠ a) (hcb : c ≠ b) : pcN (2 ^ a ||| 2 ^ b ||| 2 ^ c) = 3 ∧ 2 ^ c &&& (2 ^ a ||| 2 ^ b) = 0 ∧ ∀ d, d < 8 → d ≠ a → d ≠ b → d ≠ c → pcN (2 ^ a ||| 2 ^ b ||| 2 ^ c ||| 2 ^ d) = 4 := by
  have h := pw2x ha hb hab
  rw [Bool.and_eq_true] at h
  have h2 := all8_ok h.2 c hc
  rw [bf hca, bf hcb, Bool.false_or, Bool.false_or, Bool.and_eq_true, Bool.and_eq_true] at h2
  refine ⟨eq_of_beq h2.1.1, eq_of_beq h2.1.2, fun d hd h3 h4 h5 => ?_⟩
  have h6 := all8_ok h2.2 d hd
  rw [bf h3, bf h4, bf h5, Bool.false_or, Bool.false_or, Bool.false_or] at h6
  exact eq_of_beq h6
theorem p256 {a : Nat} (ha : a < 8) : 2 ^ a < 256 := (Nat.pow_lt_pow_right (by decide : 1 < 2) ha : 2 ^ a < 2 ^ 8)
theorem bp32 {v p : Nat} (hv : v < 16) (hp : p < 8) : bp v p < 2 ^ 32 := by
  unfold bp
  have h1 : 2 ^ (4 * p) ≤ 2 ^ 28 := Nat.pow_le_pow_right (by decide) (by omega)
  calc v * 2 ^ (4 * p) ≤ 15 * 2 ^ 28 := Nat.mul_le_mul (by omega) h1
    _ < 2 ^ 32 := by decide
theorem tp (a p : Nat) : (2 ^ a).testBit p = decide (a = p) := Nat.testBit_two_pow
