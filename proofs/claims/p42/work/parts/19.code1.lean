/-! The words over numbers: nibbles, products of the field of 16, the four sums in one number, and what the class does with them, as functions of Nat. -/
def tmT : Nat := 116196760129267793630862849262464326346044543732748708940920453221664288556434379745879494961270582141731748813355742142288220638766218855867759359510984593843506004200114943278699875244065120512813025380665946106619127097398772031257643617143689515450995722003729973585221105779229319991106539050771048038400
def tm (a b : Nat) : Nat := tmT / 2 ^ (4 * (16 * a + b)) % 16
def nb (n p : Nat) : Nat := n / 2 ^ (4 * p) % 16
def hsN (n j : Nat) : Nat → Nat → Nat
  | 0, s => s
  | p+1, s => hsN n j p (tm s (2 ^ j) ^^^ nb n p)
def syO (n : Nat) : Nat → Nat → Nat → Nat
  | 0, _, q => q
  | m+1, k, q => syO n m (k+1) (q ^^^ (hsN n k 8 0 * 2 ^ (4 * k)))
def syN (n : Nat) : Nat := syO n 4 0 0
def swI (left pw len : Nat) : Nat → Nat → Nat → Nat
  | 0, _, q => q
  | m+1, k, q => if k < len then swI left pw len m (k+1) (q ^^^ ((nb left (k+1) ^^^ tm (nb left k) pw) * 2 ^ (4 * k))) else q
def swO (P : Nat) : Nat → Nat → Nat → Nat → Nat
  | 0, _, left, _ => left
  | m+1, k, left, c => if P / 2 ^ k % 2 = 1 then swO P m (k+1) (swI left (nb 3160638497 k) (4 - (c+1)) 4 0 0) (c+1) else swO P m (k+1) left c
def swN (S P : Nat) : Nat := swO P 8 0 S 0
def quU (a b : Nat) : Nat → Nat → Nat
  | 0, _ => 0
  | m+1, k => if tm k b = a then k else quU a b m (k+1)
def quN (a b : Nat) : Nat := quU a b 16 0
def wo (P k : Nat) : Nat := P &&& (255 ^^^ 2 ^ k)
def fiU (S P : Nat) : Nat → Nat → Nat → Nat
  | 0, _, n => n
  | m+1, k, n => fiU S P m (k+1) (if P / 2 ^ k % 2 = 1 then n ^^^ (quN (swN S (wo P k) % 16) (swN (syN (2 ^ (4 * k))) (wo P k) % 16) * 2 ^ (4 * k)) else n)
def fiN (n S P : Nat) : Nat := fiU S P 8 0 n
def pcN (P : Nat) : Nat := P % 2 + P / 2 % 2 + P / 4 % 2 + P / 8 % 2 + P / 16 % 2 + P / 32 % 2 + P / 64 % 2 + P / 128 % 2
theorem tm_lt (a b : Nat) : tm a b < 16 := Nat.mod_lt _ (by decide)
theorem nb_lt (n p : Nat) : nb n p < 16 := Nat.mod_lt _ (by decide)
theorem nb_xor (a b p : Nat) : nb (a ^^^ b) p = nb a p ^^^ nb b p := by
  unfold nb
  rw [Nat.xor_div_two_pow, show (16 : Nat) = 2 ^ 4 from rfl, Nat.xor_mod_two_pow]
theorem nb_0 (p : Nat) : nb 0 p = 0 := by simp [nb]
theorem x16 {a b : Nat} (ha : a < 16) (hb : b < 16) : a ^^^ b < 16 := Nat.xor_lt_two_pow (n := 4) ha hb
theorem tm_xor : ∀ a, a < 16 → ∀ b, b < 16 → ∀ c, c < 16 → tm (a ^^^ b) c = tm a c ^^^ tm b c := by decide +kernel
theorem xx4 (a b c d : Nat) : (a ^^^ b) ^^^ (c ^^^ d) = (a ^^^ c) ^^^ (b ^^^ d) := by
  rw [Nat.xor_assoc, Nat.xor_assoc, ← Nat.xor_assoc b, Nat.xor_comm b c, Nat.xor_assoc c]
theorem mulx (a b k : Nat) : (a ^^^ b) * 2 ^ k = a * 2 ^ k ^^^ b * 2 ^ k := by
  rw [← Nat.shiftLeft_eq, ← Nat.shiftLeft_eq, ← Nat.shiftLeft_eq, Nat.shiftLeft_xor_distrib]
theorem hs_lt (n j : Nat) : ∀ p s, s < 16 → hsN n j p s < 16
  | 0, s, h => h
  | p+1, s, _ => hs_lt n j p _ (x16 (tm_lt _ _) (nb_lt _ _))
theorem hs_xor (n m : Nat) {j : Nat} (hj : 2 ^ j < 16) : ∀ p s t, s < 16 → t < 16 → hsN (n ^^^ m) j p (s ^^^ t) = hsN n j p s ^^^ hsN m j p t
  | 0, s, t, _, _ => rfl
  | p+1, s, t, hs, ht => by
    rw [hsN, hsN, hsN, tm_xor s hs t ht _ hj, nb_xor, xx4]
    exact hs_xor n m hj p _ _ (x16 (tm_lt _ _) (nb_lt _ _)) (x16 (tm_lt _ _) (nb_lt _ _))
theorem pj {k : Nat} (h : k < 4) : 2 ^ k < 16 := by
  rcases (show k = 0 ∨ k = 1 ∨ k = 2 ∨ k = 3 by omega) with rfl | rfl | rfl | rfl <;> decide
theorem syO_xor (n m : Nat) : ∀ i k q r, k + i = 4 → syO (n ^^^ m) i k (q ^^^ r) = syO n i k q ^^^ syO m i k r
  | 0, k, q, r, _ => rfl
  | i+1, k, q, r, h => by
    have h0 : hsN (n ^^^ m) k 8 0 = hsN n k 8 0 ^^^ hsN m k 8 0 := hs_xor n m (pj (by omega)) 8 0 0 (by decide) (by decide)
    rw [syO, syO, syO, h0, mulx, xx4]
    exact syO_xor n m i (k+1) _ _ (by omega)
theorem sy_xor (n m : Nat) : syN (n ^^^ m) = syN n ^^^ syN m := syO_xor n m 4 0 0 0 rfl
theorem swI_xor (a b pw len : Nat) (hp : pw < 16) : ∀ i k q r, swI (a ^^^ b) pw len i k (q ^^^ r) = swI a pw len i k q ^^^ swI b pw len i k r
  | 0, k, q, r => rfl
  | i+1, k, q, r => by
    rw [swI, swI, swI]
    by_cases hk : k < len
    · rw [if_pos hk, if_pos hk, if_pos hk, nb_xor, nb_xor, tm_xor _ (nb_lt _ _) _ (nb_lt _ _) _ hp, xx4, mulx, xx4]
      exact swI_xor a b pw len hp i (k+1) _ _
    · rw [if_neg hk, if_neg hk, if_neg hk]
theorem swO_xor (P : Nat) : ∀ i k a b c, swO P i k (a ^^^ b) c = swO P i k a c ^^^ swO P i k b c
  | 0, k, a, b, c => rfl
  | i+1, k, a, b, c => by
    rw [swO, swO, swO]
    by_cases hk : P / 2 ^ k % 2 = 1
    · rw [if_pos hk, if_pos hk, if_pos hk, show (0 : Nat) = 0 ^^^ 0 from rfl, swI_xor a b _ _ (nb_lt _ _)]
      exact swO_xor P i (k+1) _ _ (c+1)
    · rw [if_neg hk, if_neg hk, if_neg hk]
      exact swO_xor P i (k+1) a b c
theorem sw_xor (a b P : Nat) : swN (a ^^^ b) P = swN a P ^^^ swN b P := swO_xor P 8 0 a b 0
theorem quN_xor : ∀ a, a < 16 → ∀ b, b < 16 → ∀ c, c < 16 → quN (a ^^^ b) c = quN a c ^^^ quN b c := by decide +kernel
theorem fiU_xor (S R P : Nat) : ∀ i k n m, fiU (S ^^^ R) P i k (n ^^^ m) = fiU S P i k n ^^^ fiU R P i k m
  | 0, k, n, m => rfl
  | i+1, k, n, m => by
    rw [fiU, fiU, fiU]
    by_cases hk : P / 2 ^ k % 2 = 1
    · rw [if_pos hk, if_pos hk, if_pos hk, sw_xor, show (16 : Nat) = 2 ^ 4 from rfl, Nat.xor_mod_two_pow, quN_xor _ (Nat.mod_lt _ (by decide)) _ (Nat.mod_lt _ (by decide)) _ (Nat.mod_lt _ (by decide)), mulx, xx4]
      exact fiU_xor S R P i (k+1) _ _
    · rw [if_neg hk, if_neg hk, if_neg hk]
      exact fiU_xor S R P i (k+1) n m
theorem fi_xor (n m S R P : Nat) : fiN (n ^^^ m) (S ^^^ R) P = fiN n S P ^^^ fiN m R P := fiU_xor S R P 8 0 n m
/-! what the kernel counts -/
def bp (v p : Nat) : Nat := v * 2 ^ (4 * p)
def all8 (f : Nat → Bool) : Bool := f 0 && f 1 && f 2 && f 3 && f 4 && f 5 && f 6 && f 7
/-- a place that is left out of the sums leaves nothing -/
def chkA : Bool := (List.range 256).all fun P => decide (4 < pcN P) || all8 fun p => decide (P / 2 ^ p % 2 ≠ 1) || (List.range 16).all fun v => swN (syN (bp v p)) P == 0
theorem chkA_ok : chkA = true := by decide +kernel
/-- the nibble of a place out of the sums without the others -/
def chkB : Bool := (List.range 256).all fun P => decide (3 < pcN P) || all8 fun p => decide (P / 2 ^ p % 2 = 1) || (List.range 16).all fun v => quN (swN (syN (bp v p)) P % 16) (swN (syN (bp 1 p)) P % 16) == v
theorem chkB_ok : chkB = true := by decide +kernel
/-- no place beside those left out vanishes -/
def chkC : Bool := (List.range 256).all fun P => decide (3 < pcN P) || all8 fun p => decide (P / 2 ^ p % 2 = 1) || (List.range 16).all fun v => v == 0 || swN (syN (bp v p)) P != 0
theorem chkC_ok : chkC = true := by decide +kernel
/-- nor do two of them, one by the other -/
def chkD : Bool := (List.range 256).all fun P => decide (2 < pcN P) || all8 fun p => decide (P / 2 ^ p % 2 = 1) || all8 fun q => p == q || decide (P / 2 ^ q % 2 = 1) || (List.range 16).all fun v => v == 0 || (List.range 16).all fun u => u == 0 || swN (syN (bp v p)) P != swN (syN (bp u q)) P
