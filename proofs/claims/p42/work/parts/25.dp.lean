/-! The channel's guess is the cheapest row of cells, of like ones the least: t k is what sample k is; co t i s: what i cells s cost. -/
def o2 (t : Int) (c d : Nat) : Nat := (t - 10 * (c : Int) + 10 * (d : Int)).natAbs * (t - 10 * (c : Int) + 10 * (d : Int)).natAbs
def co (t : Nat → Int) : Nat → Nat → Nat
  | 0, _ => 0
  | i+1, s => co t i (s / 2) + o2 (t i) (s % 2) (s / 4 % 2)
abbrev small (t : Nat → Int) : Prop := ∀ k, -40 ≤ t k ∧ t k ≤ 40
theorem o2_le {t : Int} {c d : Nat} (h1 : -40 ≤ t) (h2 : t ≤ 40) (hc : c ≤ 1) (hd : d ≤ 1) : o2 t c d ≤ 2500 := by
  have h : (t - 10 * (c : Int) + 10 * (d : Int)).natAbs ≤ 50 := by omega
  exact Nat.mul_le_mul h h
theorem co_le {t : Nat → Int} (ht : small t) : ∀ i s, co t i s ≤ 2500 * i
  | 0, _ => Nat.le_refl 0
  | i+1, s => by
    have h1 := co_le ht i (s / 2)
    have h2 := o2_le (ht i).1 (ht i).2 (show s % 2 ≤ 1 by omega) (show s / 4 % 2 ≤ 1 by omega)
    rw [co]
    omega
def Opt (S : Nat → Prop) (f : Nat → Nat) (a b : Int64) : Prop := (∃ r, S r ∧ a = lN (f r) ∧ b = lN r ∧ ∀ r', S r' → f r < f r' ∨ (f r = f r' ∧ r ≤ r')) ∨ ((∀ r, ¬ S r) ∧ a = lN 1000000 ∧ b = lN 0)
def OptC (S : Nat → Prop) (f : Nat → Nat) (a b : Int64) : Prop := (∃ r, S r ∧ a = lN (f r) ∧ b = lN r ∧ ∀ r', S r' → f r < f r' ∨ (f r = f r' ∧ r ≤ r')) ∨ ((∀ r, ¬ S r) ∧ ∃ A B : Nat, A < 2 ^ 40 ∧ B < 2 ^ 40 ∧ 1000000 ≤ A ∧ a = lN A ∧ b = lN B)
theorem opt_c {S : Nat → Prop} {f : Nat → Nat} {a b : Int64} (h : Opt S f a b) : OptC S f a b := by
  rcases h with h | ⟨h1, h2, h3⟩
  · exact Or.inl h
  · exact Or.inr ⟨h1, 1000000, 0, by decide, by decide, Nat.le_refl _, h2, h3⟩
theorem opt_iff {S S' : Nat → Prop} {f : Nat → Nat} {a b : Int64} (h : Opt S f a b) (hS : ∀ r, S' r ↔ S r) : Opt S' f a b := by
  rcases h with ⟨r, h1, h2, h3, h4⟩ | ⟨h1, h2, h3⟩
  · exact Or.inl ⟨r, (hS r).mpr h1, h2, h3, fun r' h => h4 r' ((hS r').mp h)⟩
  · exact Or.inr ⟨fun r h => h1 r ((hS r).mp h), h2, h3⟩
theorem better_lN {a b c d : Nat} (ha : a < 2 ^ 62) (hb : b < 2 ^ 62) (hc : c < 2 ^ 62) (hd : d < 2 ^ 62) : fBetter (lN a) (lN b) (lN c) (lN d) = 0 ↔ ¬ (a < c ∨ (a = c ∧ b < d)) := by
  have hi : (lN a < lN c ∨ (lN a = lN c ∧ lN b < lN d)) ↔ (a < c ∨ (a = c ∧ b < d)) := by
    rw [pk_lLT (by omega) (by omega), pk_lEQ (by omega) (by omega), pk_lLT (by omega) (by omega)]
  unfold fBetter
  by_cases h : a < c ∨ (a = c ∧ b < d)
  · rw [if_pos (hi.mpr h)]
    exact ⟨fun z => absurd z (by decide), fun z => absurd h z⟩
  · rw [if_neg (fun z => h (hi.mp z))]
    exact ⟨fun _ => h, fun _ => rfl⟩
theorem opt_merge {S1 S2 S : Nat → Prop} {f : Nat → Nat} {a1 b1 a2 b2 : Int64} (h1 : Opt S1 f a1 b1) (h2 : OptC S2 f a2 b2) (hS : ∀ r, S r ↔ S1 r ∨ S2 r) (hf : ∀ r, S r → f r < 1000000) (hr : ∀ r, S r → r < 2 ^ 40) :
    Opt S f (if fBetter a2 b2 a1 b1 = 0 then a1 else a2) (if fBetter a2 b2 a1 b1 = 0 then b1 else b2) := by
  rcases h1 with ⟨r1, s1, rfl, rfl, m1⟩ | ⟨e1, rfl, rfl⟩
  · have q1 := hf r1 ((hS r1).mpr (Or.inl s1))
    have q2 := hr r1 ((hS r1).mpr (Or.inl s1))
    rcases h2 with ⟨r2, s2, rfl, rfl, m2⟩ | ⟨e2, A, B, hA, hB, hF, rfl, rfl⟩
    · have q3 := hf r2 ((hS r2).mpr (Or.inr s2))
      have q4 := hr r2 ((hS r2).mpr (Or.inr s2))
      have hbt := better_lN (a := f r2) (b := r2) (c := f r1) (d := r1) (by omega) (by omega) (by omega) (by omega)
      by_cases hb : f r2 < f r1 ∨ (f r2 = f r1 ∧ r2 < r1)
      · have hn : ¬ fBetter (lN (f r2)) (lN r2) (lN (f r1)) (lN r1) = 0 := fun z => (hbt.mp z) hb
        rw [if_neg hn, if_neg hn]
        refine Or.inl ⟨r2, (hS r2).mpr (Or.inr s2), rfl, rfl, fun r' h => ?_⟩
        rcases (hS r').mp h with h | h
        · have := m1 r' h; omega
        · exact m2 r' h
      · have hn : fBetter (lN (f r2)) (lN r2) (lN (f r1)) (lN r1) = 0 := hbt.mpr hb
        rw [if_pos hn, if_pos hn]
        refine Or.inl ⟨r1, (hS r1).mpr (Or.inl s1), rfl, rfl, fun r' h => ?_⟩
        rcases (hS r').mp h with h | h
        · exact m1 r' h
        · have := m2 r' h; omega
    · have hn : fBetter (lN A) (lN B) (lN (f r1)) (lN r1) = 0 := (better_lN (by omega) (by omega) (by omega) (by omega)).mpr (by omega)
      rw [if_pos hn, if_pos hn]
      refine Or.inl ⟨r1, (hS r1).mpr (Or.inl s1), rfl, rfl, fun r' h => ?_⟩
      rcases (hS r').mp h with h | h
      · exact m1 r' h
      · exact absurd h (e2 r')
  · rcases h2 with ⟨r2, s2, rfl, rfl, m2⟩ | ⟨e2, A, B, hA, hB, hF, rfl, rfl⟩
    · have q3 := hf r2 ((hS r2).mpr (Or.inr s2))
      have q4 := hr r2 ((hS r2).mpr (Or.inr s2))
      have hn : ¬ fBetter (lN (f r2)) (lN r2) (lN 1000000) (lN 0) = 0 := fun z => ((better_lN (by omega) (by omega) (by omega) (by omega)).mp z) (Or.inl q3)
      rw [if_neg hn, if_neg hn]
      refine Or.inl ⟨r2, (hS r2).mpr (Or.inr s2), rfl, rfl, fun r' h => ?_⟩
      rcases (hS r').mp h with h | h
      · exact absurd h (e1 r')
      · exact m2 r' h
    · have hn : fBetter (lN A) (lN B) (lN 1000000) (lN 0) = 0 := (better_lN (by omega) (by omega) (by omega) (by omega)).mpr (by omega)
      rw [if_pos hn, if_pos hn]
      refine Or.inr ⟨fun r h => ?_, rfl, rfl⟩
      rcases (hS r).mp h with h | h
      · exact e1 r h
      · exact e2 r h
/-! one sample -/
theorem bm64 {n : Int} (h1 : -2 ^ 63 ≤ n) (h2 : n < 2 ^ 63) : n.bmod (2 ^ 64) = n := by
  rw [Int.bmod_def]; omega
theorem mi_mul {x y : Int64} (h1 : -2 ^ 63 ≤ x.toInt * y.toInt) (h2 : x.toInt * y.toInt < 2 ^ 63) : (x * y).toInt = x.toInt * y.toInt := by rw [Int64.toInt_mul, bm64 h1 h2]
theorem mi_sub {x y : Int64} (h1 : -2 ^ 63 ≤ x.toInt - y.toInt) (h2 : x.toInt - y.toInt < 2 ^ 63) : (x - y).toInt = x.toInt - y.toInt := by rw [Int64.toInt_sub, bm64 h1 h2]
theorem sq64 {x : Int64} {z : Int} (hx : x.toInt = z) (h1 : -100 ≤ z) (h2 : z ≤ 100) : x * x = lN (z.natAbs * z.natAbs) := by
  have h3 : z.natAbs * z.natAbs ≤ 100 * 100 := Nat.mul_le_mul (by omega) (by omega)
  have h4 : ((z.natAbs * z.natAbs : Nat) : Int) = z * z := Int.natAbs_mul_self
  apply Int64.toInt_inj.mp
  have h5 : x.toInt * x.toInt = z * z := by rw [hx]
  rw [mi_mul (by rw [h5, ← h4]; omega) (by rw [h5, ← h4]; omega), h5, pf_lI (by omega), h4]
theorem off_ok : ∀ k, k < 4 → ∀ j, j < 2 → (((10 : Int32) * (nI j - (nI k >>> ((1 : Int32) &&& 31)))).toInt64).toInt = 10 * (j : Int) - 10 * ((k / 2 : Nat) : Int) := by decide +kernel
theorem kOff_ok {x : Int64} {t : Int} (hx : x.toInt = t) (h1 : -40 ≤ t) (h2 : t ≤ 40) {k j : Nat} (hk : k < 4) (hj : j < 2) : kOff x k j * kOff x k j = lN (o2 t j (k / 2)) := by
  have h := off_ok k hk j hj
  have e : (kOff x k j).toInt = t - 10 * (j : Int) + 10 * ((k / 2 : Nat) : Int) := by
    unfold kOff
    rw [mi_sub (by rw [hx, h]; omega) (by rw [hx, h]; omega), hx, h]
    omega
  exact sq64 e (by omega) (by omega)
theorem kNx_ok : ∀ k, k < 4 → ∀ j, j < 2 → kNx k j = nI (2 * (k % 2) + j) := by decide +kernel
theorem kNu_ok {nu : Nat → Int64} {k j r : Nat} (hk : k < 4) (hj : j < 2) (hr : r < 2 ^ 40) (h : nu k = lN r) : kNu nu k j = lN (2 * r + j) := by
  unfold kNu
  rw [fAt_in nu hk (by decide), h, show (1 : Int32) = nI 1 from rfl, wb_shl r (by decide), nI_l (by omega), wb_or (by omega) (by omega), Nat.mul_comm r, ← Nat.two_pow_add_eq_or_of_lt (i := 1) (show j < 2 ^ 1 by omega)]
theorem kSq_ok {sq : Nat → Int64} {x : Int64} {t : Int} (hx : x.toInt = t) (h1 : -40 ≤ t) (h2 : t ≤ 40) {k j A : Nat} (hk : k < 4) (hj : j < 2) (h : sq k = lN A) : kSq x sq k j = lN (A + o2 t j (k / 2)) := by
  unfold kSq
  rw [fAt_in sq hk (by decide), h, kOff_ok hx h1 h2 hk hj, lN_add]
def Inv (t : Nat → Int) (i : Nat) (sq nu : Nat → Int64) : Prop := ∀ q, q < 4 → Opt (fun r => r < 2 ^ i ∧ r % 4 = q) (co t i) (sq q) (nu q)
theorem co_st (t : Nat → Int) (i r j : Nat) (hj : j < 2) : co t (i+1) (2 * r + j) = co t i r + o2 (t i) j (r % 4 / 2) := by
  rw [co, show (2 * r + j) / 2 = r by omega, show (2 * r + j) % 2 = j by omega, show (2 * r + j) / 4 % 2 = r % 4 / 2 by omega]
theorem p40 {i : Nat} (hi : i ≤ 12) : 2 ^ i ≤ 4096 := (Nat.pow_le_pow_right (by decide : 2 > 0) hi : 2 ^ i ≤ 2 ^ 12)
theorem cand_ok {t : Nat → Int} (ht : small t) {i : Nat} (hi : i ≤ 12) {sq nu : Nat → Int64} (hI : Inv t i sq nu) {x : Int64} (hx : x.toInt = t i) {k j : Nat} (hk : k < 4) (hj : j < 2) :
    OptC (fun s => s < 2 ^ (i+1) ∧ s / 2 % 4 = k ∧ s % 2 = j) (co t (i+1)) (kSq x sq k j) (kNu nu k j) := by
  have hp := p40 hi
  rcases hI k hk with ⟨r, ⟨s1, s2⟩, ha, hb, hm⟩ | ⟨he, ha, hb⟩
  · have hc := co_le ht i r
    refine Or.inl ⟨2 * r + j, ⟨by rw [Nat.pow_succ]; omega, by omega, by omega⟩, ?_, ?_, ?_⟩
    · rw [kSq_ok hx (ht i).1 (ht i).2 hk hj ha, co_st t i r j hj, s2]
    · exact kNu_ok hk hj (by omega) hb
    · intro s' ⟨h1, h2, h3⟩
      have h4 := hm (s' / 2) ⟨by rw [Nat.pow_succ] at h1; omega, h2⟩
      have h5 := co_st t i (s' / 2) j hj
      rw [show 2 * (s' / 2) + j = s' by omega, h2] at h5
      have h6 := co_st t i r j hj
      rw [s2] at h6
      omega
  · have ho := o2_le (ht i).1 (ht i).2 (show j ≤ 1 by omega) (show k / 2 ≤ 1 by omega)
    refine Or.inr ⟨fun s' ⟨h1, h2, h3⟩ => he (s' / 2) ⟨by rw [Nat.pow_succ] at h1; omega, h2⟩, 1000000 + o2 (t i) j (k / 2), 2 * 0 + j, by omega, by omega, by omega, ?_, ?_⟩
    · exact kSq_ok hx (ht i).1 (ht i).2 hk hj ha
    · exact kNu_ok hk hj (by decide) hb
def PS (i k j s : Nat) : Prop := s < 2 ^ (i+1) ∧ (s / 2 % 4 < k ∨ (s / 2 % 4 = k ∧ s % 2 < j))
def IV (t : Nat → Int) (i k j : Nat) (ns nn : Nat → Int64) : Prop := ∀ q, q < 4 → Opt (fun s => PS i k j s ∧ s % 4 = q) (co t (i+1)) (ns q) (nn q)
theorem upd_at {f : Nat → Int64} {x q : Nat} {v : Int64} (hx : x < 4) : fPut 4 f (nI x) v q = if q = x then v else f q := by
  rw [fPut_in f v hx (by decide)]
  rfl
theorem kIn_ok {t : Nat → Int} (ht : small t) {i : Nat} (hi : i ≤ 11) {sq nu : Nat → Int64} (hI : Inv t i sq nu) {x : Int64} (hx : x.toInt = t i) {k : Nat} (hk : k < 4) : ∀ n j ns nn, j + n = 2 → IV t i k j ns nn → IV t i k 2 (kIn x sq nu k n j ns nn).1 (kIn x sq nu k n j ns nn).2
  | 0, j, ns, nn, h, hv => by
    obtain rfl : j = 2 := by omega
    exact hv
  | n+1, j, ns, nn, h, hv => by
    have hj : j < 2 := by omega
    have hp := p40 (show i + 1 ≤ 12 by omega)
    have hq : 2 * (k % 2) + j < 4 := by omega
    have hcand := cand_ok ht (by omega) hI hx hk hj
    have hmrg := opt_merge (S := fun s => PS i k (j+1) s ∧ s % 4 = 2 * (k % 2) + j) (hv (2 * (k % 2) + j) hq) hcand (fun s => by
        unfold PS
        constructor
        · rintro ⟨⟨h1, h2⟩, h3⟩
          by_cases h4 : s / 2 % 4 = k ∧ s % 2 = j
          · exact Or.inr ⟨h1, h4⟩
          · exact Or.inl ⟨⟨h1, by omega⟩, h3⟩
        · rintro (⟨⟨h1, h2⟩, h3⟩ | ⟨h1, h2, h3⟩)
          · exact ⟨⟨h1, by omega⟩, h3⟩
          · exact ⟨⟨h1, by omega⟩, by omega⟩) (fun s _ => by have := co_le ht (i+1) s; omega) (fun s hs => by have := hs.1.1; omega)
    have hoth : ∀ q, q < 4 → q ≠ 2 * (k % 2) + j → Opt (fun s => PS i k (j+1) s ∧ s % 4 = q) (co t (i+1)) (ns q) (nn q) := by
      intro q hq4 hne
      refine opt_iff (hv q hq4) (fun s => ?_)
      unfold PS
      constructor
      · rintro ⟨⟨h1, h2⟩, h3⟩
        exact ⟨⟨h1, by omega⟩, h3⟩
      · rintro ⟨⟨h1, h2⟩, h3⟩
        exact ⟨⟨h1, by omega⟩, h3⟩
    rw [kIn, kNx_ok k hk j hj, fAt_in ns hq (by decide), fAt_in nn hq (by decide)]
    by_cases hb : fBetter (kSq x sq k j) (kNu nu k j) (ns (2 * (k % 2) + j)) (nn (2 * (k % 2) + j)) = 0
    · rw [if_pos hb]
      rw [if_pos hb, if_pos hb] at hmrg
      refine kIn_ok ht hi hI hx hk n (j+1) ns nn (by omega) (fun q hq4 => ?_)
      by_cases hne : q = 2 * (k % 2) + j
      · rw [hne]; exact hmrg
      · exact hoth q hq4 hne
    · rw [if_neg hb]
      rw [if_neg hb, if_neg hb] at hmrg
      refine kIn_ok ht hi hI hx hk n (j+1) _ _ (by omega) (fun q hq4 => ?_)
      rw [upd_at hq, upd_at hq]
      by_cases hne : q = 2 * (k % 2) + j
      · rw [if_pos hne, if_pos hne, hne]; exact hmrg
      · rw [if_neg hne, if_neg hne]; exact hoth q hq4 hne
theorem kSt_ok {t : Nat → Int} (ht : small t) {i : Nat} (hi : i ≤ 11) {sq nu : Nat → Int64} (hI : Inv t i sq nu) {x : Int64} (hx : x.toInt = t i) : ∀ n k ns nn, k + n = 4 → IV t i k 0 ns nn → IV t i 4 0 (kSt x sq nu n k ns nn).1 (kSt x sq nu n k ns nn).2
  | 0, k, ns, nn, h, hv => by
    obtain rfl : k = 4 := by omega
    exact hv
  | n+1, k, ns, nn, h, hv => by
    rw [kSt]
    refine kSt_ok ht hi hI hx n (k+1) _ _ (by omega) (fun q hq => ?_)
    refine opt_iff (kIn_ok ht hi hI hx (show k < 4 by omega) 2 0 ns nn rfl hv q hq) (fun s => ?_)
    unfold PS
    constructor
    · rintro ⟨⟨h1, h2⟩, h3⟩; exact ⟨⟨h1, by omega⟩, h3⟩
    · rintro ⟨⟨h1, h2⟩, h3⟩; exact ⟨⟨h1, by omega⟩, h3⟩
theorem kCp_at (f : Nat → Int64) : ∀ n k g q, k + n = 4 → q < 4 → kCp f n k g q = if k ≤ q then f q else g q
  | 0, k, g, q, h, hq => by rw [kCp, if_neg (by omega)]
  | n+1, k, g, q, h, hq => by
    rw [kCp, kCp_at f n (k+1) _ q (by omega) hq, upd_at (show k < 4 by omega), fAt_in f (show k < 4 by omega) (by decide)]
    by_cases h1 : k + 1 ≤ q
    · rw [if_pos h1, if_pos (by omega)]
    · rw [if_neg h1]
      by_cases h2 : q = k
      · rw [if_pos h2, if_pos (by omega), h2]
      · rw [if_neg h2, if_neg (by omega)]
theorem step_ok {t : Nat → Int} (ht : small t) {i : Nat} (hi : i ≤ 11) {sq nu : Nat → Int64} (hI : Inv t i sq nu) {x : Int64} (hx : x.toInt = t i) (c d : Nat → Int64) : Inv t (i+1) (kCp (kSt x sq nu 4 0 (fFil c 1000000 4) (fFil d 0 4)).1 4 0 sq) (kCp (kSt x sq nu 4 0 (fFil c 1000000 4) (fFil d 0 4)).2 4 0 nu) := by
  intro q hq
  rw [kCp_at _ 4 0 sq q rfl hq, kCp_at _ 4 0 nu q rfl hq, if_pos (Nat.zero_le _), if_pos (Nat.zero_le _)]
  refine opt_iff (kSt_ok ht hi hI hx 4 0 (fFil c 1000000 4) (fFil d 0 4) rfl (fun q' hq' => ?_) q hq) (fun s => ?_)
  · refine Or.inr ⟨fun s hs => ?_, ?_, ?_⟩
    · have h1 := hs.1.2
      omega
    · show (if q' < 4 then (1000000 : Int64) else c q') = lN 1000000
      rw [if_pos hq']; rfl
    · show (if q' < 4 then (0 : Int64) else d q') = lN 0
      rw [if_pos hq']; rfl
  · unfold PS
    constructor
    · rintro ⟨h1, h2⟩; exact ⟨⟨h1, Or.inl (by omega)⟩, h2⟩
    · rintro ⟨⟨h1, h2⟩, h3⟩; exact ⟨h1, h3⟩
theorem inv_0 (t : Nat → Int) (sq nu : Nat → Int64) : Inv t 0 (fPut 4 (fFil sq 1000000 4) 0 0) (fFil nu 0 4) := by
  intro q hq
  have e1 : fPut 4 (fFil sq 1000000 4) 0 0 q = if q = 0 then 0 else fFil sq 1000000 4 q := upd_at (x := 0) (by decide)
  rw [e1]
  by_cases h0 : q = 0
  · subst h0
    refine Or.inl ⟨0, ⟨by decide, rfl⟩, rfl, rfl, fun r' h => ?_⟩
    exact Or.inr ⟨rfl, Nat.zero_le _⟩
  · rw [if_neg h0]
    refine Or.inr ⟨fun r h => ?_, ?_, ?_⟩
    · have h1 := h.1
      have h2 := h.2
      rw [Nat.pow_zero] at h1
      omega
    · show (if q < 4 then (1000000 : Int64) else sq q) = lN 1000000
      rw [if_pos hq]; rfl
    · show (if q < 4 then (0 : Int64) else nu q) = lN 0
      rw [if_pos hq]; rfl
theorem run_ok {t : Nat → Int} (ht : small t) {m : Nat} (hm : m ≤ 12) {sa : Nat → Int64} (hsa : ∀ k, k < m → (sa k).toInt = t k) : ∀ n k a b c d, k + n = m → Inv t k a b → Inv t m (kRun sa n k a b c d).1 (kRun sa n k a b c d).2.1
  | 0, k, a, b, c, d, h, hI => by
    obtain rfl : k = m := by omega
    exact hI
  | n+1, k, a, b, c, d, h, hI => by
    rw [kRun]
    refine run_ok ht hm hsa n (k+1) _ _ _ _ (by omega) ?_
    rw [fAt_in sa (show k < 12 by omega) (by decide)]
    exact step_ok ht (by omega) hI (hsa k (by omega)) c d
theorem best_ok {t : Nat → Int} (ht : small t) {m : Nat} (hm : m ≤ 12) {sq nu : Nat → Int64} (hI : Inv t m sq nu) : ∀ n k b, k + n = 4 → (∃ bb, bb < 4 ∧ b = nI bb ∧ Opt (fun r => r < 2 ^ m ∧ r % 4 < k) (co t m) (sq bb) (nu bb)) → ∃ bb, bb < 4 ∧ kBe sq nu n k b = nI bb ∧ Opt (fun r => r < 2 ^ m ∧ r % 4 < 4) (co t m) (sq bb) (nu bb)
  | 0, k, b, h, hb => by
    obtain rfl : k = 4 := by omega
    exact hb
  | n+1, k, b, h, ⟨bb, h1, h2, h3⟩ => by
    have hp := p40 hm
    have hk : k < 4 := by omega
    rw [kBe, h2, fAt_in sq hk (by decide), fAt_in nu hk (by decide), fAt_in sq h1 (by decide), fAt_in nu h1 (by decide)]
    have hmrg := opt_merge (S := fun r => r < 2 ^ m ∧ r % 4 < k + 1) h3 (opt_c (hI k hk)) (fun r => by
        constructor
        · rintro ⟨q1, q2⟩
          by_cases q3 : r % 4 = k
          · exact Or.inr ⟨q1, q3⟩
          · exact Or.inl ⟨q1, by omega⟩
        · rintro (⟨q1, q2⟩ | ⟨q1, q2⟩)
          · exact ⟨q1, by omega⟩
          · exact ⟨q1, by omega⟩) (fun r _ => by have := co_le ht m r; omega) (fun r hr => by have := hr.1; omega)
    by_cases hb : fBetter (sq k) (nu k) (sq bb) (nu bb) = 0
    · rw [if_pos hb]
      rw [if_pos hb, if_pos hb] at hmrg
      exact best_ok ht hm hI n (k+1) (nI bb) (by omega) ⟨bb, h1, rfl, hmrg⟩
    · rw [if_neg hb]
      rw [if_neg hb, if_neg hb] at hmrg
      exact best_ok ht hm hI n (k+1) (nI k) (by omega) ⟨k, hk, rfl, hmrg⟩
/-- the cheapest, of like ones the least -/
def Least (f : Nat → Nat) (m r : Nat) : Prop := r < 2 ^ m ∧ ∀ r', r' < 2 ^ m → f r < f r' ∨ (f r = f r' ∧ r ≤ r')
theorem guess_ok {t : Nat → Int} (ht : small t) {m : Nat} (hm : m ≤ 12) {sa : Nat → Int64} (hsa : ∀ k, k < m → (sa k).toInt = t k) (sq nu ns nn Q1 Q2 Q3 Q4 : Nat → Int64) (hQ : kRun sa m 0 (fPut 4 (fFil sq 1000000 4) 0 0) (fFil nu 0 4) ns nn = (Q1, Q2, Q3, Q4)) : ∃ r, Least (co t m) m r ∧ (fAt 4 Q2 (kBe Q1 Q2 3 1 0)).toInt32 = nI r := by
  have hI := run_ok ht hm hsa m 0 _ _ ns nn (Nat.zero_add m) (inv_0 t sq nu)
  rw [hQ] at hI
  have hI : Inv t m Q1 Q2 := hI
  obtain ⟨bb, h1, h2, h3⟩ := best_ok ht hm hI 3 1 0 rfl ⟨0, by decide, rfl, opt_iff (hI 0 (by decide)) (fun r => by
    constructor
    · rintro ⟨q1, q2⟩; exact ⟨q1, by omega⟩
    · rintro ⟨q1, q2⟩; exact ⟨q1, by omega⟩)⟩
  rcases h3 with ⟨r, ⟨s1, s2⟩, ha, hb, hmm⟩ | ⟨he, -, -⟩
  · refine ⟨r, ⟨s1, fun r' h => hmm r' ⟨h, by omega⟩⟩, ?_⟩
    rw [h2, fAt_in Q2 h1 (by decide), hb, lN_i]
  · exact absurd ⟨Nat.pow_pos (by decide), by decide⟩ (he 0)
theorem least_one {f : Nat → Nat} {m r r' : Nat} (h : Least f m r) (h' : Least f m r') : r = r' := by
  have h1 := h.2 r' h'.1
  have h2 := h'.2 r h.1
  omega
