/-! rows of laws/BITS.to-paste and NUMBERS.to-paste -/
theorem s_l : ∀ n, n < 32 → ((nI n &&& 31).toBitVec.smod 32).toNat = n := by decide +kernel
theorem s_u : ∀ n, n < 32 → (((nI n).toUInt32 &&& Int32.toUInt32 31).toBitVec % 32).toNat = n := by decide +kernel
theorem nx_xor (a b : Nat) : nI a ^^^ nI b = nI (a ^^^ b) := by
  apply Int32.toBitVec_inj.1
  show BitVec.ofNat 32 a ^^^ BitVec.ofNat 32 b = BitVec.ofNat 32 (a ^^^ b)
  apply BitVec.eq_of_getLsbD_eq
  intro i hi
  simp [hi]
theorem wb_tb (n : Nat) : (lN n).toBitVec = BitVec.ofNat 64 n := rfl
theorem wb_inj {a b : Int64} (h : a.toBitVec = b.toBitVec) : a = b := Int64.toBitVec_inj.mp h
theorem wb_tn {n : Nat} (h : n < 2 ^ 64) : (lN n).toBitVec.toNat = n := by rw [wb_tb, BitVec.toNat_ofNat, Nat.mod_eq_of_lt h]
theorem wb_of (x : Int64) : ∃ n, n < 2 ^ 64 ∧ x = lN n := ⟨x.toBitVec.toNat, x.toBitVec.isLt, wb_inj (by rw [wb_tb]; simp)⟩
theorem wb_of32 (x : Int32) : ∃ n, n < 2 ^ 32 ∧ x = nI n := ⟨x.toBitVec.toNat, x.toBitVec.isLt, Int32.toBitVec_inj.mp (by show _ = BitVec.ofNat 32 _; simp)⟩
theorem wb_c : ∀ k, k < 64 → ((nI k).toInt64 &&& 63) = lN k := by decide +kernel
theorem wb_cu : ∀ k, k < 64 → ((nI k).toInt64.toUInt64 &&& Int64.toUInt64 63) = UInt64.ofNat k := by decide +kernel
theorem wb_sm : ∀ k, k < 64 → (BitVec.ofNat 64 k).smod 64 = BitVec.ofNat 64 k := by decide +kernel
theorem wb_pw {a b : Nat} (h : a ≤ b) : 2 ^ b = 2 ^ a * 2 ^ (b - a) := by rw [← Nat.pow_add]; congr 1; omega
theorem wb_lt2 {a b : Nat} (h : a < b) : 2 ^ a < 2 ^ b := Nat.pow_lt_pow_right (by decide) h
theorem wb_mod (n : Nat) : lN n = lN (n % 2 ^ 64) := wb_inj (by rw [wb_tb, wb_tb]; apply BitVec.eq_of_toNat_eq; rw [BitVec.toNat_ofNat, BitVec.toNat_ofNat, Nat.mod_mod])
theorem wb_shr {n k : Nat} (hn : n < 2 ^ 64) (hk : k < 64) : ((lN n).toUInt64 >>> ((nI k).toInt64.toUInt64 &&& Int64.toUInt64 63)).toInt64 = lN (n / 2 ^ k) := by
  rw [wb_cu k hk]
  apply wb_inj
  apply BitVec.eq_of_toNat_eq
  show ((lN n).toUInt64 >>> UInt64.ofNat k).toNat = (BitVec.ofNat 64 _).toNat
  have h1 : (UInt64.ofNat k).toNat = k := by
    show (BitVec.ofNat 64 k).toNat = k
    rw [BitVec.toNat_ofNat, Nat.mod_eq_of_lt (by omega)]
  have h2 : (lN n).toUInt64.toNat = n := wb_tn hn
  rw [UInt64.toNat_shiftRight, h1, h2, Nat.mod_eq_of_lt hk, Nat.shiftRight_eq_div_pow, BitVec.toNat_ofNat, Nat.mod_eq_of_lt (Nat.lt_of_le_of_lt (Nat.div_le_self _ _) hn)]
theorem wb_shl (n : Nat) {k : Nat} (hk : k < 64) : lN n <<< ((nI k).toInt64 &&& 63) = lN (n * 2 ^ k) := by
  rw [wb_c k hk]
  apply wb_inj
  rw [Int64.toBitVec_shiftLeft, wb_tb, wb_tb, wb_tb, wb_sm k hk]
  apply BitVec.eq_of_toNat_eq
  rw [BitVec.shiftLeft_eq', BitVec.toNat_shiftLeft, BitVec.toNat_ofNat, BitVec.toNat_ofNat, BitVec.toNat_ofNat, Nat.mod_eq_of_lt (show k < 2 ^ 64 by omega), Nat.shiftLeft_eq, Nat.mul_mod, Nat.mod_mod, ← Nat.mul_mod]
theorem wb_and {a b : Nat} (ha : a < 2 ^ 64) (hb : b < 2 ^ 64) : lN a &&& lN b = lN (a &&& b) := by
  apply wb_inj
  rw [Int64.toBitVec_and, wb_tb, wb_tb, wb_tb]
  apply BitVec.eq_of_toNat_eq
  rw [BitVec.toNat_and, BitVec.toNat_ofNat, BitVec.toNat_ofNat, BitVec.toNat_ofNat, Nat.mod_eq_of_lt ha, Nat.mod_eq_of_lt hb, Nat.mod_eq_of_lt (Nat.and_lt_two_pow _ hb)]
theorem wb_or {a b : Nat} (ha : a < 2 ^ 64) (hb : b < 2 ^ 64) : lN a ||| lN b = lN (a ||| b) := by
  apply wb_inj
  rw [Int64.toBitVec_or, wb_tb, wb_tb, wb_tb]
  apply BitVec.eq_of_toNat_eq
  rw [BitVec.toNat_or, BitVec.toNat_ofNat, BitVec.toNat_ofNat, BitVec.toNat_ofNat, Nat.mod_eq_of_lt ha, Nat.mod_eq_of_lt hb, Nat.mod_eq_of_lt (Nat.or_lt_two_pow ha hb)]
theorem wb_mask {n k : Nat} (hn : n < 2 ^ 64) (hk : k < 64) : lN n &&& lN (2 ^ k - 1) = lN (n % 2 ^ k) := by
  rw [wb_and hn (by have := wb_lt2 hk; omega), Nat.and_two_pow_sub_one_eq_mod]
theorem wb_a1 {n : Nat} (hn : n < 2 ^ 64) : lN n &&& 1 = lN (n % 2) := wb_mask (k := 1) hn (by decide)
theorem wb_bit {n k : Nat} (hn : n < 2 ^ 64) (hk : k < 64) : ((lN n).toUInt64 >>> ((nI k).toInt64.toUInt64 &&& Int64.toUInt64 63)).toInt64 &&& 1 = lN (n / 2 ^ k % 2) := by
  rw [wb_shr hn hk, wb_a1 (Nat.lt_of_le_of_lt (Nat.div_le_self _ _) hn)]
theorem lN_bv (n : Nat) : (lN n).toBitVec = BitVec.ofNat 64 n := rfl
theorem lN_xor (a b : Nat) : lN a ^^^ lN b = lN (a ^^^ b) := by
  apply Int64.toBitVec_inj.mp; rw [Int64.toBitVec_xor, lN_bv, lN_bv, lN_bv]; apply BitVec.eq_of_getLsbD_eq; intro i hi; simp [BitVec.getLsbD_ofNat, Nat.testBit_xor, hi]
theorem fa_and (a b : Nat) : nI a &&& nI b = nI (a &&& b) := by
  apply Int32.toBitVec_inj.1
  show BitVec.ofNat 32 a &&& BitVec.ofNat 32 b = BitVec.ofNat 32 (a &&& b)
  apply BitVec.eq_of_getLsbD_eq
  intro i hi
  simp [hi]
theorem fa_or (a b : Nat) : nI a ||| nI b = nI (a ||| b) := by
  apply Int32.toBitVec_inj.1
  show BitVec.ofNat 32 a ||| BitVec.ofNat 32 b = BitVec.ofNat 32 (a ||| b)
  apply BitVec.eq_of_getLsbD_eq
  intro i hi
  simp [hi]
theorem fa_mask (n k : Nat) : nI n &&& nI (2 ^ k - 1) = nI (n % 2 ^ k) := by rw [fa_and, Nat.and_two_pow_sub_one_eq_mod]
/-! What the machine's functions are on numbers -/
theorem cTm : ∀ a, a < 16 → ∀ b, b < 16 → fTimes (nI a) (nI b) = nI (tm a b) := by decide +kernel
theorem cQu : ∀ a, a < 16 → ∀ b, b < 16 → fQuot (nI a) (nI b) = nI (quN a b) := by decide +kernel
theorem cBt : ∀ a, a < 256 → fBit (nI a) = nI (pcN a) := by decide +kernel
theorem cBit : ∀ P, P < 256 → ∀ k, k < 8 → ((nI P >>> (nI k &&& 31)) &&& 1 = 1 ↔ P / 2 ^ k % 2 = 1) := by decide +kernel
theorem cOth : ∀ P, P < 256 → ∀ k, k < 8 → fOth (nI P) k = nI (wo P k) := by decide +kernel
theorem cLen : ∀ k, k < 4 → ∀ c, c ≤ 8 → (nI k < fLen c ↔ k < 4 - c) := by decide +kernel
theorem cOne : ∀ k, k < 8 → (1 : Int32) <<< (nI k &&& 31) = nI (2 ^ k) := by decide +kernel
theorem c4 (k : Nat) : (4 : Int32) * nI k = nI (4 * k) := pk_mul 4 k
theorem cNib {n p : Nat} (hn : n < 2 ^ 64) (hp : p < 16) : fNib (lN n) (nI p) = nI (nb n p) := by
  unfold fNib nb
  rw [c4, wb_shr hn (by omega), lN_i]
  exact fa_mask _ 4
theorem c15 (n : Nat) : nI n &&& 15 = nI (n % 16) := fa_mask n 4
theorem cShl {x k : Nat} (hx : x < 16) (hk : k < 4) : nI x <<< ((4 * nI k) &&& 31) = nI (x * 2 ^ (4 * k)) := by
  rw [c4]
  refine pk_shlN _ (4 * k) (s_l _ (by omega)) ?_
  rcases (show k = 0 ∨ k = 1 ∨ k = 2 ∨ k = 3 by omega) with rfl | rfl | rfl | rfl <;> simp <;> omega
/-- 'or' of parts that don't meet is 'xor' -/
theorem or_x {a k : Nat} (b : Nat) (h : a < 2 ^ k) : a ||| b * 2 ^ k = a ^^^ b * 2 ^ k := by
  rw [← Nat.shiftLeft_eq]
  apply Nat.eq_of_testBit_eq
  intro i
  rw [Nat.testBit_or, Nat.testBit_xor, Nat.testBit_shiftLeft]
  by_cases hi : i < k
  · have : decide (i ≥ k) = false := decide_eq_false (by omega)
    simp [this]
  · have h1 : a.testBit i = false := Nat.testBit_lt_two_pow (Nat.lt_of_lt_of_le h (Nat.pow_le_pow_right (by decide) (by omega)))
    simp [h1]
theorem x_lt {a b k : Nat} (ha : a < 2 ^ (4 * k)) (hb : b < 16) : a ^^^ b * 2 ^ (4 * k) < 2 ^ (4 * (k + 1)) := by
  refine Nat.xor_lt_two_pow (Nat.lt_of_lt_of_le ha (Nat.pow_le_pow_right (by decide) (by omega))) ?_
  rw [show 4 * (k + 1) = 4 + 4 * k by omega, Nat.pow_add]
  exact Nat.mul_lt_mul_of_pos_right hb (Nat.pow_pos (by decide))
theorem cHs {n j : Nat} (hn : n < 2 ^ 64) (hj : j < 4) : ∀ p s, p ≤ 8 → s < 16 → fSuI (lN n) (nI j) p (nI s) = nI (hsN n j p s)
  | 0, s, _, _ => rfl
  | p+1, s, hp, hs => by
    rw [fSuI, hsN, cOne j (by omega), cTm s hs _ (pj hj), cNib hn (by omega), nx_xor]
    exact cHs hn hj p _ (by omega) (x16 (tm_lt _ _) (nb_lt _ _))
theorem cSyO {n : Nat} (hn : n < 2 ^ 64) : ∀ i k q, k + i = 4 → q < 2 ^ (4 * k) → fSuO (lN n) i k (nI q) = nI (syO n i k q)
  | 0, k, q, _, _ => rfl
  | i+1, k, q, h, hq => by
    have h0 : fSuI (lN n) (nI k) 8 0 = nI (hsN n k 8 0) := cHs hn (by omega) 8 0 (Nat.le_refl 8) (by decide)
    have hlt : hsN n k 8 0 < 16 := hs_lt n k 8 0 (by decide)
    rw [fSuO, syO, h0, cShl hlt (by omega), fa_or, or_x _ hq]
    exact cSyO hn i (k+1) _ (by omega) (x_lt hq hlt)
theorem cSy {n : Nat} (hn : n < 2 ^ 64) : fSums (lN n) = nI (syN n) := cSyO hn 4 0 0 rfl (by decide)
theorem syO_lt (n : Nat) : ∀ i k q, k + i = 4 → q < 2 ^ (4 * k) → syO n i k q < 65536
  | 0, k, q, h, hq => by
    obtain rfl : k = 4 := by omega
    exact hq
  | i+1, k, q, h, hq => syO_lt n i (k+1) _ (by omega) (x_lt hq (hs_lt n k 8 0 (by decide)))
theorem sy_lt (n : Nat) : syN n < 65536 := syO_lt n 4 0 0 rfl (by decide)
theorem swI_lt (a pw len : Nat) : ∀ i k q, k + i = 4 → q < 2 ^ (4 * k) → swI a pw len i k q < 65536
  | 0, k, q, h, hq => by
    obtain rfl : k = 4 := by omega
    exact hq
  | i+1, k, q, h, hq => by
    rw [swI]
    by_cases hk : k < len
    · rw [if_pos hk]
      exact swI_lt a pw len i (k+1) _ (by omega) (x_lt hq (x16 (nb_lt _ _) (tm_lt _ _)))
    · rw [if_neg hk]
      exact Nat.lt_of_lt_of_le hq (Nat.pow_le_pow_right (n := 2) (by decide) (show 4 * k ≤ 16 by omega))
theorem cSwI {a pw c : Nat} (ha : a < 65536) (hp : pw < 16) (hc : c ≤ 8) : ∀ i k q, k + i = 4 → q < 2 ^ (4 * k) → fSwI (nI a) (nI pw) (fLen c) i k (nI q) = nI (swI a pw (4 - c) i k q)
  | 0, k, q, _, _ => rfl
  | i+1, k, q, h, hq => by
    rw [fSwI, swI]
    by_cases hk : k < 4 - c
    · have h1 : fNib (nI a).toInt64 (nI k + 1) = nI (nb a (k+1)) := by rw [nI_l (by omega), nI_1]; exact cNib (by omega) (by omega)
      have h2 : fNib (nI a).toInt64 (nI k) = nI (nb a k) := by rw [nI_l (by omega)]; exact cNib (by omega) (by omega)
      have hlt : nb a (k+1) ^^^ tm (nb a k) pw < 16 := x16 (nb_lt _ _) (tm_lt _ _)
      rw [if_pos hk, if_pos ((cLen k (by omega) c hc).mpr hk), h1, h2, cTm _ (nb_lt _ _) _ hp, nx_xor, cShl hlt (by omega), fa_or, or_x _ hq]
      exact cSwI ha hp hc i (k+1) _ (by omega) (x_lt hq hlt)
    · rw [if_neg hk, if_neg (fun z => hk ((cLen k (by omega) c hc).mp z))]
theorem cSwO {P : Nat} (hP : P < 256) : ∀ i k a c, k + i = 8 → c ≤ k → a < 65536 → fSwO (nI P) i k (nI a) c = nI (swO P i k a c)
  | 0, k, a, c, _, _, _ => rfl
  | i+1, k, a, c, h, hc, ha => by
    rw [fSwO, swO]
    by_cases hk : P / 2 ^ k % 2 = 1
    · have h1 : fNib 3160638497 (nI k) = nI (nb 3160638497 k) := cNib (n := 3160638497) (by decide) (by omega)
      have h2 := cSwI ha (nb_lt 3160638497 k) (c := c + 1) (by omega) 4 0 0 rfl (by decide)
      rw [if_pos hk, if_pos ((cBit P hP k (by omega)).mpr hk), h1, show (0 : Int32) = nI 0 from rfl, h2]
      exact cSwO hP i (k+1) _ (c+1) (by omega) (by omega) (swI_lt _ _ _ 4 0 0 rfl (by decide))
    · rw [if_neg hk, if_neg (fun z => hk ((cBit P hP k (by omega)).mp z))]
      exact cSwO hP i (k+1) a c (by omega) (by omega) ha
theorem cSw {S P : Nat} (hS : S < 65536) (hP : P < 256) : fSw (nI S) (nI P) = nI (swN S P) := cSwO hP 8 0 S 0 rfl (Nat.le_refl 0) hS
theorem swO_lt (P : Nat) : ∀ i k a c, a < 65536 → swO P i k a c < 65536
  | 0, k, a, c, ha => ha
  | i+1, k, a, c, ha => by
    rw [swO]
    by_cases hk : P / 2 ^ k % 2 = 1
    · rw [if_pos hk]; exact swO_lt P i (k+1) _ (c+1) (swI_lt _ _ _ 4 0 0 rfl (by decide))
    · rw [if_neg hk]; exact swO_lt P i (k+1) a c ha
theorem sw_lt {S P : Nat} (hS : S < 65536) : swN S P < 65536 := swO_lt P 8 0 S 0 hS
theorem wo_lt {P k : Nat} (hP : P < 256) : wo P k < 256 := Nat.lt_of_le_of_lt Nat.and_le_left hP
theorem cTurn {n k b : Nat} (hk : k < 8) (hb : b < 16) : fTurn (lN n) (nI k) (nI b) = lN (n ^^^ b * 2 ^ (4 * k)) := by
  unfold fTurn
  rw [c4, nI_l (by omega), wb_shl _ (by omega), lN_xor]
theorem quN_lt : ∀ a, a < 16 → ∀ b, b < 16 → quN a b < 16 := by decide +kernel
theorem cFi {S P : Nat} (hS : S < 65536) (hP : P < 256) : ∀ i k n, k + i = 8 → fFi (nI S) (nI P) i k (lN n) = lN (fiU S P i k n)
  | 0, k, n, _ => rfl
  | i+1, k, n, h => by
    rw [fFi, fiU]
    by_cases hk : P / 2 ^ k % 2 = 1
    · have h1 : fSums ((1 : Int64) <<< ((4 * nI k).toInt64 &&& 63)) = nI (syN (2 ^ (4 * k))) := by
        rw [c4, show (1 : Int64) = lN 1 from rfl, wb_shl 1 (by omega), Nat.one_mul]
        exact cSy (Nat.pow_lt_pow_right (by decide) (by omega))
      have hq := quN_lt (swN S (wo P k) % 16) (Nat.mod_lt _ (by decide)) (swN (syN (2 ^ (4 * k))) (wo P k) % 16) (Nat.mod_lt _ (by decide))
      rw [if_pos hk, if_pos ((cBit P hP k (by omega)).mpr hk), h1, cOth P hP k (by omega), cSw hS (wo_lt hP), cSw (sy_lt _) (wo_lt hP), c15, c15, cQu _ (Nat.mod_lt _ (by decide)) _ (Nat.mod_lt _ (by decide)), cTurn (by omega) hq]
      exact cFi hS hP i (k+1) _ (by omega)
    · rw [if_neg hk, if_neg (fun z => hk ((cBit P hP k (by omega)).mp z))]
      exact cFi hS hP i (k+1) n (by omega)
theorem cFill {n S P : Nat} (hS : S < 65536) (hP : P < 256) : fFill (lN n) (nI S) (nI P) = lN (fiN n S P) := cFi hS hP 8 0 n rfl
def diU (a b : Nat) : Nat → Nat → Nat → Nat
  | 0, _, q => q
  | i+1, k, q => diU a b i (k+1) (if nb a k = nb b k then q else q + 1)
theorem cDi {a b : Nat} (ha : a < 2 ^ 64) (hb : b < 2 ^ 64) : ∀ i k q, k + i = 8 → fDi (lN a) (lN b) i k (nI q) = nI (diU a b i k q)
  | 0, k, q, _ => rfl
  | i+1, k, q, h => by
    rw [fDi, diU, cNib ha (by omega), cNib hb (by omega)]
    have ha' := nb_lt a k
    have hb' := nb_lt b k
    by_cases hk : nb a k = nb b k
    · rw [if_pos hk, if_pos (by rw [hk])]
      exact cDi ha hb i (k+1) q (by omega)
    · rw [if_neg hk, if_neg (fun z => hk ((nI_eq (by omega) (by omega)).mp z)), nI_1]
      exact cDi ha hb i (k+1) (q+1) (by omega)
/-- which set of places the loop finds -/
def near (S wk k : Nat) : Prop := 2 * pcN k + pcN wk ≤ 4 ∧ k &&& wk = 0 ∧ swN S (k ||| wk) = 0
theorem pcN_le (P : Nat) : pcN P ≤ 8 := by unfold pcN; omega
theorem or256 {a b : Nat} (ha : a < 256) (hb : b < 256) : a ||| b < 256 := Nat.or_lt_two_pow (n := 8) ha hb
theorem cNear {S wk k : Nat} (hS : S < 65536) (hw : wk < 256) (hk : k < 256) : (2 * fBit (nI k) + fBit (nI wk) ≤ 4 ∧ nI k &&& nI wk = 0 ∧ fSw (nI S) (nI k ||| nI wk) = 0) ↔ near S wk k := by
  have h1 := pcN_le k
  have h2 := pcN_le wk
  have e1 : 2 * fBit (nI k) + fBit (nI wk) = nI (2 * pcN k + pcN wk) := by
    rw [cBt k hk, cBt wk hw, show (2 : Int32) = nI 2 from rfl, pk_mul, nI_add]
  have h3 : k &&& wk < 256 := Nat.lt_of_le_of_lt Nat.and_le_left hk
  have h4 := sw_lt (P := k ||| wk) hS
  unfold near
  rw [e1, fa_and, fa_or, cSw hS (or256 hk hw), show (4 : Int32) = nI 4 from rfl, show (0 : Int32) = nI 0 from rfl, nI_leI (by omega) (by omega), nI_eq (by omega) (by omega), nI_eq (by omega) (by omega)]
theorem cRe_some {n S wk T : Nat} (hS : S < 65536) (hw : wk < 256) (ht : ∀ k, k < 256 → near S wk k → fiN n S (k ||| wk) = T) : ∀ i k, k + i = 256 → (∃ k', k ≤ k' ∧ k' < 256 ∧ near S wk k') → fRe (lN n) (nI S) (nI wk) (fBit (nI wk)) i k = lN T
  | 0, k, h, ⟨k', h1, h2, _⟩ => by omega
  | i+1, k, h, ⟨k', h1, h2, h3⟩ => by
    rw [fRe]
    by_cases hk : near S wk k
    · rw [if_pos ((cNear hS hw (by omega)).mpr hk), fa_or, cFill hS (or256 (by omega) hw), ht k (by omega) hk]
    · rw [if_neg (fun z => hk ((cNear hS hw (by omega)).mp z))]
      refine cRe_some hS hw ht i (k+1) (by omega) ⟨k', ?_, h2, h3⟩
      rcases Nat.eq_or_lt_of_le h1 with rfl | h4
      · exact absurd h3 hk
      · omega
theorem cRe_none {n S wk : Nat} (hS : S < 65536) (hw : wk < 256) (hno : ∀ k, k < 256 → ¬ near S wk k) : ∀ i k, k + i = 256 → fRe (lN n) (nI S) (nI wk) (fBit (nI wk)) i k = -1
  | 0, k, _ => rfl
  | i+1, k, h => by
    rw [fRe, if_neg (fun z => hno k (by omega) ((cNear hS hw (by omega)).mp z))]
    exact cRe_none hS hw hno i (k+1) (by omega)
theorem cRep_some {n wk T k : Nat} (hn : n < 2 ^ 64) (hw : wk < 256) (hk : k < 256) (hnear : near (syN n) wk k) (ht : ∀ k, k < 256 → near (syN n) wk k → fiN n (syN n) (k ||| wk) = T) : fRep (lN n) (nI wk) = lN T := by
  unfold fRep
  rw [cSy hn]
  exact cRe_some (sy_lt n) hw ht 256 0 rfl ⟨k, Nat.zero_le _, hk, hnear⟩
theorem cRep_none {n wk : Nat} (hn : n < 2 ^ 64) (hw : wk < 256) (hno : ∀ k, k < 256 → ¬ near (syN n) wk k) : fRep (lN n) (nI wk) = -1 := by
  unfold fRep
  rw [cSy hn]
  exact cRe_none (sy_lt n) hw hno 256 0 rfl
