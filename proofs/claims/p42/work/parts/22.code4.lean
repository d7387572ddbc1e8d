/-! A word with harmed places comes back -/
def xs (f : Nat → Nat) : Nat → Nat
  | 0 => 0
  | k+1 => xs f k ^^^ f k
theorem xs_lin (L : Nat → Nat) (h : ∀ a b, L (a ^^^ b) = L a ^^^ L b) (f : Nat → Nat) : ∀ k, L (xs f k) = xs (fun p => L (f p)) k
  | 0 => by
    have h0 := h 0 0
    rw [Nat.xor_self, Nat.xor_self] at h0
    exact h0
  | k+1 => by rw [xs, xs, h, xs_lin L h f k]
theorem xs_zero (f : Nat → Nat) : ∀ k, (∀ p, p < k → f p = 0) → xs f k = 0
  | 0, _ => rfl
  | k+1, h => by rw [xs, xs_zero f k (fun p hp => h p (by omega)), h k (by omega)]; rfl
theorem xs_one (f : Nat → Nat) (a : Nat) : ∀ k, a < k → (∀ p, p < k → p ≠ a → f p = 0) → xs f k = f a
  | 0, h, _ => absurd h (Nat.not_lt_zero _)
  | k+1, h, hz => by
    rw [xs]
    by_cases hk : k = a
    · subst hk
      rw [xs_zero f k (fun p hp => hz p (by omega) (by omega)), Nat.zero_xor]
    · rw [xs_one f a k (by omega) (fun p hp hne => hz p (by omega) hne), hz k (by omega) hk, Nat.xor_zero]
theorem xs_two (f : Nat → Nat) (a b : Nat) (hab : a < b) : ∀ k, b < k → (∀ p, p < k → p ≠ a → p ≠ b → f p = 0) → xs f k = f a ^^^ f b
  | 0, h, _ => absurd h (Nat.not_lt_zero _)
  | k+1, h, hz => by
    rw [xs]
    by_cases hk : k = b
    · subst hk
      rw [xs_one f a k hab (fun p hp hne => hz p (by omega) hne (by omega))]
    · rw [xs_two f a b hab k (by omega) (fun p hp h1 h2 => hz p (by omega) h1 h2), hz k (by omega) (by omega) hk, Nat.xor_zero]
theorem xs_dec (e : Nat) : ∀ k, xs (fun p => bp (nb e p) p) k = e % 2 ^ (4 * k)
  | 0 => by rw [xs, Nat.mul_zero, Nat.pow_zero, Nat.mod_one]
  | k+1 => by
    rw [xs, xs_dec e k]
    have h1 : e % 2 ^ (4 * k) < 2 ^ (4 * k) := Nat.mod_lt _ (Nat.pow_pos (by decide))
    show e % 2 ^ (4 * k) ^^^ nb e k * 2 ^ (4 * k) = _
    rw [← or_x _ h1, Nat.or_comm, Nat.mul_comm, ← Nat.two_pow_add_eq_or_of_lt h1, show 4 * (k + 1) = 4 * k + 4 by omega, Nat.pow_add, Nat.mod_mul, nb, Nat.add_comm]
theorem xs_all {e : Nat} (he : e < 2 ^ 32) : xs (fun p => bp (nb e p) p) 8 = e := by
  rw [xs_dec]
  exact Nat.mod_eq_of_lt he
/-- a linear look at a word is the looks at its nibbles -/
theorem lin_dec (L : Nat → Nat) (h : ∀ a b, L (a ^^^ b) = L a ^^^ L b) {e : Nat} (he : e < 2 ^ 32) : L e = xs (fun p => L (bp (nb e p) p)) 8 := by
  have h1 := xs_lin L h (fun p => bp (nb e p) p) 8
  rw [xs_all he] at h1
  exact h1
def lo (P e : Nat) : Nat := swN (syN e) P
theorem lo_xor (P a b : Nat) : lo P (a ^^^ b) = lo P a ^^^ lo P b := by unfold lo; rw [sy_xor, sw_xor]
theorem lo_0 (P : Nat) : lo P 0 = 0 := by
  have h := lo_xor P 0 0
  rw [Nat.xor_self, Nat.xor_self] at h
  exact h
theorem bp_0 (p : Nat) : bp 0 p = 0 := Nat.zero_mul _
theorem all8_ok {f : Nat → Bool} (h : all8 f = true) : ∀ p, p < 8 → f p = true := by
  simp only [all8, Bool.and_eq_true] at h
  obtain ⟨⟨⟨⟨⟨⟨⟨h0, h1⟩, h2⟩, h3⟩, h4⟩, h5⟩, h6⟩, h7⟩ := h
  intro p hp
  rcases (show p = 0 ∨ p = 1 ∨ p = 2 ∨ p = 3 ∨ p = 4 ∨ p = 5 ∨ p = 6 ∨ p = 7 by omega) with rfl | rfl | rfl | rfl | rfl | rfl | rfl | rfl <;> assumption
theorem range_ok {f : Nat → Bool} {N : Nat} (h : (List.range N).all f = true) {k : Nat} (hk : k < N) : f k = true := List.all_eq_true.mp h k (List.mem_range.mpr hk)
theorem tb (P p : Nat) : P / 2 ^ p % 2 = 1 ↔ P.testBit p = true := by
  rw [Nat.testBit_eq_decide_div_mod_eq, decide_eq_true_iff]
theorem okA {P p v : Nat} (hP : P < 256) (hc : pcN P ≤ 4) (hp : p < 8) (hb : P.testBit p = true) (hv : v < 16) : lo P (bp v p) = 0 := by
  have h1 := range_ok chkA_ok hP
  rw [Bool.or_eq_true] at h1
  rcases h1 with h1 | h1
  · exact absurd (of_decide_eq_true h1) (by omega)
  · have h2 := all8_ok h1 p hp
    rw [Bool.or_eq_true] at h2
    rcases h2 with h2 | h2
    · exact absurd ((tb P p).mpr hb) (of_decide_eq_true h2)
    · exact eq_of_beq (range_ok h2 hv)
theorem okB {P p v : Nat} (hP : P < 256) (hc : pcN P ≤ 3) (hp : p < 8) (hb : P.testBit p = false) (hv : v < 16) : quN (lo P (bp v p) % 16) (lo P (bp 1 p) % 16) = v := by
  have h1 := range_ok chkB_ok hP
  rw [Bool.or_eq_true] at h1
  rcases h1 with h1 | h1
  · exact absurd (of_decide_eq_true h1) (by omega)
  · have h2 := all8_ok h1 p hp
    rw [Bool.or_eq_true] at h2
    rcases h2 with h2 | h2
    · exact absurd ((tb P p).mp (of_decide_eq_true h2)) (by rw [hb]; decide)
    · exact eq_of_beq (range_ok h2 hv)
theorem okC {P p v : Nat} (hP : P < 256) (hc : pcN P ≤ 3) (hp : p < 8) (hb : P.testBit p = false) (hv : v < 16) (h0 : v ≠ 0) : lo P (bp v p) ≠ 0 := by
  have h1 := range_ok chkC_ok hP
  rw [Bool.or_eq_true] at h1
  rcases h1 with h1 | h1
  · exact absurd (of_decide_eq_true h1) (by omega)
  · have h2 := all8_ok h1 p hp
    rw [Bool.or_eq_true] at h2
    rcases h2 with h2 | h2
    · exact absurd ((tb P p).mp (of_decide_eq_true h2)) (by rw [hb]; decide)
    · have h3 := range_ok h2 hv
      rw [Bool.or_eq_true] at h3
      rcases h3 with h3 | h3
      · exact absurd (eq_of_beq h3) h0
      · exact bne_iff_ne.mp h3
theorem okD {P p q v u : Nat} (hP : P < 256) (hc : pcN P ≤ 2) (hp : p < 8) (hb : P.testBit p = false) (hq : q < 8) (hbq : P.testBit q = false) (hpq : p ≠ q) (hv : v < 16) (h0 : v ≠ 0) (hu : u < 16) (hu0 : u ≠ 0) : lo P (bp v p) ≠ lo P (bp u q) := by
  have h1 := range_ok chkD_ok hP
  rw [Bool.or_eq_true] at h1
  rcases h1 with h1 | h1
  · exact absurd (of_decide_eq_true h1) (by omega)
  · have h2 := all8_ok h1 p hp
    rw [Bool.or_eq_true] at h2
    rcases h2 with h2 | h2
    · exact absurd ((tb P p).mp (of_decide_eq_true h2)) (by rw [hb]; decide)
    · have h3 := all8_ok h2 q hq
      rw [Bool.or_eq_true, Bool.or_eq_true] at h3
      rcases h3 with (h3 | h3) | h3
      · exact absurd (eq_of_beq h3) hpq
      · exact absurd ((tb P q).mp (of_decide_eq_true h3)) (by rw [hbq]; decide)
      · have h4 := range_ok h3 hv
        rw [Bool.or_eq_true] at h4
        rcases h4 with h4 | h4
        · exact absurd (eq_of_beq h4) h0
        · have h5 := range_ok h4 hu
          rw [Bool.or_eq_true] at h5
          rcases h5 with h5 | h5
          · exact absurd (eq_of_beq h5) hu0
          · exact bne_iff_ne.mp h5
/-! sets of places -/
theorem wo_pc : ∀ P, P < 256 → ∀ k, k < 8 → P.testBit k = true → pcN (wo P k) + 1 = pcN P := by decide +kernel
theorem wo_bit : ∀ P, P < 256 → ∀ k, k < 8 → ∀ p, p < 8 → (wo P k).testBit p = (P.testBit p && !decide (p = k)) := by decide +kernel
theorem bitor (a b p : Nat) : (a ||| b) / 2 ^ p % 2 ≤ a / 2 ^ p % 2 + b / 2 ^ p % 2 := by
  have h := Nat.testBit_or a b p
  rw [Nat.testBit_eq_decide_div_mod_eq, Nat.testBit_eq_decide_div_mod_eq, Nat.testBit_eq_decide_div_mod_eq] at h
  by_cases h1 : a / 2 ^ p % 2 = 1
  · omega
  · by_cases h2 : b / 2 ^ p % 2 = 1
    · omega
    · rw [decide_eq_false h1, decide_eq_false h2] at h
      have h3 := of_decide_eq_false h
      omega
theorem sum8 {x0 x1 x2 x3 x4 x5 x6 x7 a0 a1 a2 a3 a4 a5 a6 a7 b0 b1 b2 b3 b4 b5 b6 b7 : Nat} (h0 : x0 ≤ a0 + b0) (h1 : x1 ≤ a1 + b1) (h2 : x2 ≤ a2 + b2) (h3 : x3 ≤ a3 + b3) (h4 : x4 ≤ a4 + b4) (h5 : x5 ≤ a5 + b5) (h6 : x6 ≤ a6 + b6) (h7 : x7 ≤ a7 + b7) : x0 + x1 + x2 + x3 + x4 + x5 + x6 + x7 ≤ (a0 + a1 + a2 + a3 + a4 + a5 + a6 + a7) + (b0 + b1 + b2 + b3 + b4 + b5 + b6 + b7) := by omega
theorem pc_or (a b : Nat) : pcN (a ||| b) ≤ pcN a + pcN b := by
  have h0 : (a ||| b) % 2 ≤ a % 2 + b % 2 := by
    have h := bitor a b 0
    rw [Nat.pow_zero, Nat.div_one, Nat.div_one, Nat.div_one] at h
    exact h
  exact sum8 h0 (bitor a b 1) (bitor a b 2) (bitor a b 3) (bitor a b 4) (bitor a b 5) (bitor a b 6) (bitor a b 7)
theorem pc_1 : ∀ E, E < 256 → ∀ r, r < 8 → E.testBit r = true → 1 ≤ pcN E := by decide +kernel
def chk2 : Bool := (List.range 256).all fun E => all8 fun r => all8 fun s => r == s || !E.testBit r || !E.testBit s || decide (2 ≤ pcN E)
theorem chk2_ok : chk2 = true := by decide +kernel
def chk3 : Bool := (List.range 256).all fun E => decide (2 < pcN E) || all8 fun r => !E.testBit r || all8 fun s => r == s || !E.testBit s || all8 fun p => p == r || p == s || !E.testBit p
theorem chk3_ok : chk3 = true := by decide +kernel
theorem pc_2 (E : Nat) (hE : E < 256) (r : Nat) (hr : r < 8) (hb : E.testBit r = true) (s : Nat) (hs : s < 8) (hne : s ≠ r) (hbs : E.testBit s = true) : 2 ≤ pcN E := by
  have h := all8_ok (all8_ok (range_ok chk2_ok hE) r hr) s hs
  rw [hb, hbs] at h
  have h1 : (r == s) = false := beq_eq_false_iff_ne.mpr (Ne.symm hne)
  rw [h1] at h
  simpa using h
theorem pc_no3 (E : Nat) (hE : E < 256) (hc : pcN E ≤ 2) (r : Nat) (hr : r < 8) (hb : E.testBit r = true) (s : Nat) (hs : s < 8) (hne : s ≠ r) (hbs : E.testBit s = true) (p : Nat) (hp : p < 8) (h1 : p ≠ r) (h2 : p ≠ s) : E.testBit p = false := by
  have h := range_ok chk3_ok hE
  rw [decide_eq_false (show ¬ 2 < pcN E by omega), Bool.false_or] at h
  have h3 := all8_ok h r hr
  rw [hb, Bool.not_true, Bool.false_or] at h3
  have h4 := all8_ok h3 s hs
  have e1 : (r == s) = false := beq_eq_false_iff_ne.mpr (Ne.symm hne)
  rw [e1, hbs, Bool.not_true, Bool.false_or, Bool.false_or] at h4
  have h5 := all8_ok h4 p hp
  have e2 : (p == r) = false := beq_eq_false_iff_ne.mpr h1
  have e3 : (p == s) = false := beq_eq_false_iff_ne.mpr h2
  rw [e2, e3, Bool.false_or, Bool.false_or] at h5
  simpa using h5
/-- the places of P are put so that the sums are 0: what was harmed there is mended -/
theorem fill_ok {e P : Nat} (he : e < 2 ^ 32) (hP : P < 256) (hc : pcN P ≤ 4) (hs : ∀ p, p < 8 → P.testBit p = false → nb e p = 0) (n : Nat) : fiN n (syN e) P = n ^^^ e := by
  have key : ∀ i k, k + i = 8 → fiU (syN e) P i k (n ^^^ xs (fun p => bp (nb e p) p) k) = n ^^^ xs (fun p => bp (nb e p) p) 8 := by
    intro i
    induction i with
    | zero =>
      intro k hk
      obtain rfl : k = 8 := by omega
      rfl
    | succ i ih =>
      intro k hk
      have hk8 : k < 8 := by omega
      rw [fiU]
      have h1 := ih (k+1) (by omega)
      rw [xs] at h1
      by_cases hb : P.testBit k = true
      · have hQ : wo P k < 256 := wo_lt hP
        have hQc : pcN (wo P k) ≤ 3 := by have := wo_pc P hP k hk8 hb; omega
        have hQk : (wo P k).testBit k = false := by rw [wo_bit P hP k hk8 k hk8]; simp
        have e1 : swN (syN e) (wo P k) = lo (wo P k) (bp (nb e k) k) := by
          show lo (wo P k) e = _
          rw [lin_dec (lo (wo P k)) (lo_xor _) he]
          refine xs_one (fun p => lo (wo P k) (bp (nb e p) p)) k 8 hk8 (fun p hp hne => ?_)
          show lo (wo P k) (bp (nb e p) p) = 0
          by_cases hp1 : P.testBit p = true
          · exact okA hQ (by omega) hp (by rw [wo_bit P hP k hk8 p hp, hp1]; simp [hne]) (nb_lt _ _)
          · rw [hs p hp (by simpa using hp1), bp_0, lo_0]
        have e2 : swN (syN (2 ^ (4 * k))) (wo P k) = lo (wo P k) (bp 1 k) := by
          show lo (wo P k) (2 ^ (4 * k)) = lo (wo P k) (1 * 2 ^ (4 * k))
          rw [Nat.one_mul]
        rw [if_pos ((tb P k).mpr hb), e1, e2, okB hQ hQc hk8 hQk (nb_lt _ _), Nat.xor_assoc]
        exact h1
      · rw [if_neg (fun z => hb ((tb P k).mp z))]
        rw [hs k hk8 (by simpa using hb), bp_0, Nat.xor_zero] at h1
        exact h1
  have h := key 8 0 rfl
  rw [show xs (fun p => bp (nb e p) p) 0 = 0 from rfl, Nat.xor_zero, xs_all he] at h
  exact h
theorem lo_all {e P : Nat} (he : e < 2 ^ 32) (hP : P < 256) (hc : pcN P ≤ 4) (hs : ∀ p, p < 8 → P.testBit p = false → nb e p = 0) : lo P e = 0 := by
  rw [lin_dec (lo P) (lo_xor P) he]
  refine xs_zero _ 8 (fun p hp => ?_)
  by_cases hp1 : P.testBit p = true
  · exact okA hP hc hp hp1 (nb_lt _ _)
  · show lo P (bp (nb e p) p) = 0
    rw [hs p hp (by simpa using hp1), bp_0, lo_0]
theorem sy_0 : syN 0 = 0 := by decide +kernel
theorem x32 {a b : Nat} (ha : a < 2 ^ 32) (hb : b < 2 ^ 32) : a ^^^ b < 2 ^ 32 := Nat.xor_lt_two_pow ha hb
/-- at most two places that are harmed and not weak, or what the weak ones leave: the word comes back -/
theorem rep_ok {n e E wk : Nat} (hn : n < 2 ^ 32) (hc : syN n = 0) (he : e < 2 ^ 32) (hE : E < 256) (hw : wk < 256) (hEw : E &&& wk = 0) (hcap : 2 * pcN E + pcN wk ≤ 4) (hs : ∀ p, p < 8 → (E ||| wk).testBit p = false → nb e p = 0) : fRep (lN (n ^^^ e)) (nI wk) = lN n := by
  have hlt : n ^^^ e < 2 ^ 64 := Nat.lt_of_lt_of_le (x32 hn he) (by decide)
  have hsy : syN (n ^^^ e) = syN e := by rw [sy_xor, hc, Nat.zero_xor]
  have hpo := pc_or E wk
  refine cRep_some hlt hw hE ⟨hcap, hEw, ?_⟩ ?_
  · rw [hsy]
    exact lo_all he (or256 hE hw) (by omega) hs
  · intro k hk hnear
    rw [hsy] at hnear ⊢
    obtain ⟨h1, h2, h3⟩ := hnear
    have hP : k ||| wk < 256 := or256 hk hw
    have hpk := pc_or k wk
    have hall : ∀ p, p < 8 → (k ||| wk).testBit p = false → nb e p = 0 := by
      intro r hr hrb
      apply Classical.byContradiction
      intro hr0
      have hwr : wk.testBit r = false := by rw [Nat.testBit_or] at hrb; simp at hrb; exact hrb.2
      have hEr : E.testBit r = true := by
        apply Classical.byContradiction
        intro z
        exact hr0 (hs r hr (by rw [Nat.testBit_or, hwr]; simpa using z))
      have hE1 := pc_1 E hE r hr hEr
      have hz : lo (k ||| wk) e = 0 := h3
      rw [lin_dec (lo (k ||| wk)) (lo_xor _) he] at hz
      by_cases hex : ∃ s, s < 8 ∧ s ≠ r ∧ (k ||| wk).testBit s = false ∧ nb e s ≠ 0
      · obtain ⟨s, hs8, hsr, hsb, hs0⟩ := hex
        have hws : wk.testBit s = false := by rw [Nat.testBit_or] at hsb; simp at hsb; exact hsb.2
        have hEs : E.testBit s = true := by
          apply Classical.byContradiction
          intro z
          exact hs0 (hs s hs8 (by rw [Nat.testBit_or, hws]; simpa using z))
        have hE2 := pc_2 E hE r hr hEr s hs8 hsr hEs
        have hoth : ∀ p, p < 8 → p ≠ r → p ≠ s → lo (k ||| wk) (bp (nb e p) p) = 0 := by
          intro p hp hpr hps
          by_cases hp1 : (k ||| wk).testBit p = true
          · exact okA hP (by omega) hp hp1 (nb_lt _ _)
          · have hwp : wk.testBit p = false := by rw [Nat.testBit_or] at hp1; simp at hp1; exact hp1.2
            rw [hs p hp (by rw [Nat.testBit_or, hwp, pc_no3 E hE (by omega) r hr hEr s hs8 hsr hEs p hp hpr hps]; rfl), bp_0, lo_0]
        have hd := okD hP (by omega) hr hrb hs8 hsb (Ne.symm hsr) (nb_lt e r) hr0 (nb_lt e s) hs0
        rcases Nat.lt_or_gt_of_ne hsr with hlt2 | hlt2
        · rw [xs_two (fun p => lo (k ||| wk) (bp (nb e p) p)) s r hlt2 8 hr (fun p hp h4 h5 => hoth p hp h5 h4)] at hz
          exact hd (by
            have hx : lo (k ||| wk) (bp (nb e s) s) ^^^ lo (k ||| wk) (bp (nb e r) r) = 0 := hz
            have hy := congrArg (fun z => lo (k ||| wk) (bp (nb e s) s) ^^^ z) hx
            simp only [← Nat.xor_assoc, Nat.xor_self, Nat.zero_xor, Nat.xor_zero] at hy
            exact hy)
        · rw [xs_two (fun p => lo (k ||| wk) (bp (nb e p) p)) r s hlt2 8 hs8 (fun p hp h4 h5 => hoth p hp h4 h5)] at hz
          exact hd (by
            have hx : lo (k ||| wk) (bp (nb e r) r) ^^^ lo (k ||| wk) (bp (nb e s) s) = 0 := hz
            have hy := congrArg (fun z => lo (k ||| wk) (bp (nb e r) r) ^^^ z) hx
            simp only [← Nat.xor_assoc, Nat.xor_self, Nat.zero_xor, Nat.xor_zero] at hy
            exact hy.symm)
      · rw [xs_one (fun p => lo (k ||| wk) (bp (nb e p) p)) r 8 hr (fun p hp hpr => by
          show lo (k ||| wk) (bp (nb e p) p) = 0
          by_cases hp1 : (k ||| wk).testBit p = true
          · exact okA hP (by omega) hp hp1 (nb_lt _ _)
          · have hp0 : nb e p = 0 := Classical.byContradiction (fun z => hex ⟨p, hp, hpr, by simpa using hp1, z⟩)
            rw [hp0, bp_0, lo_0])] at hz
        exact okC hP (by omega) hr hrb (nb_lt e r) hr0 hz
    rw [fill_ok he hP (by omega) hall, Nat.xor_assoc, Nat.xor_self, Nat.xor_zero]
/-- two harmed places beside one weak one: lost -/
theorem rep_lost {n e wk r s : Nat} (hn : n < 2 ^ 32) (hc : syN n = 0) (he : e < 2 ^ 32) (hw : wk < 256) (hw1 : pcN wk = 1) (hr : r < 8) (hs8 : s < 8) (hrs : r < s) (hwr : wk.testBit r = false) (hws : wk.testBit s = false) (hr0 : nb e r ≠ 0) (hs0 : nb e s ≠ 0) (hs : ∀ p, p < 8 → p ≠ r → p ≠ s → wk.testBit p = false → nb e p = 0) : fRep (lN (n ^^^ e)) (nI wk) = -1 := by
  have hlt : n ^^^ e < 2 ^ 64 := Nat.lt_of_lt_of_le (x32 hn he) (by decide)
  have hsy : syN (n ^^^ e) = syN e := by rw [sy_xor, hc, Nat.zero_xor]
  refine cRep_none hlt hw (fun k hk hnear => ?_)
  rw [hsy] at hnear
  obtain ⟨h1, h2, h3⟩ := hnear
  have hP : k ||| wk < 256 := or256 hk hw
  have hpk := pc_or k wk
  have hz : lo (k ||| wk) e = 0 := h3
  rw [lin_dec (lo (k ||| wk)) (lo_xor _) he] at hz
  have hoth : ∀ p, p < 8 → p ≠ r → p ≠ s → lo (k ||| wk) (bp (nb e p) p) = 0 := by
    intro p hp hpr hps
    by_cases hp1 : (k ||| wk).testBit p = true
    · exact okA hP (by omega) hp hp1 (nb_lt _ _)
    · have hwp : wk.testBit p = false := by rw [Nat.testBit_or] at hp1; simp at hp1; exact hp1.2
      rw [hs p hp hpr hps hwp, bp_0, lo_0]
  rw [xs_two (fun p => lo (k ||| wk) (bp (nb e p) p)) r s hrs 8 hs8 (fun p hp h4 h5 => hoth p hp h4 h5)] at hz
  have hx : lo (k ||| wk) (bp (nb e r) r) ^^^ lo (k ||| wk) (bp (nb e s) s) = 0 := hz
  by_cases hrb : (k ||| wk).testBit r = true
  · by_cases hsb : (k ||| wk).testBit s = true
    · have hkr : k.testBit r = true := by rw [Nat.testBit_or, hwr] at hrb; simpa using hrb
      have hks : k.testBit s = true := by rw [Nat.testBit_or, hws] at hsb; simpa using hsb
      have := pc_2 k hk r hr hkr s hs8 (by omega) hks
      omega
    · rw [okA hP (by omega) hr hrb (nb_lt _ _), Nat.zero_xor] at hx
      exact okC hP (by omega) hs8 (by simpa using hsb) (nb_lt e s) hs0 hx
  · by_cases hsb : (k ||| wk).testBit s = true
    · rw [okA hP (by omega) hs8 hsb (nb_lt _ _), Nat.xor_zero] at hx
      exact okC hP (by omega) hr (by simpa using hrb) (nb_lt e r) hr0 hx
    · have hd := okD hP (by omega) hr (by simpa using hrb) hs8 (by simpa using hsb) (by omega) (nb_lt e r) hr0 (nb_lt e s) hs0
      refine hd ?_
      have hy := congrArg (fun z => lo (k ||| wk) (bp (nb e r) r) ^^^ z) hx
      simp only [← Nat.xor_assoc, Nat.xor_self, Nat.zero_xor, Nat.xor_zero] at hy
      exact hy.symm
/-- five weak places: lost -/
theorem rep_31 {n : Nat} (hn : n < 2 ^ 32) : fRep (lN n) 31 = -1 := by
  refine cRep_none (wk := 31) (Nat.lt_of_lt_of_le hn (by decide)) (by decide) (fun k hk hnear => ?_)
  have h1 := hnear.1
  have h2 : pcN 31 = 5 := by decide
  omega
