/-! What the law asks of words: n is the word of a value, a b c d places, B C D what they are harmed by -/
theorem nbz {e p : Nat} (h : ¬ nb e p ≠ 0) : nb e p = 0 := Classical.byContradiction h
theorem nb1 {a B p : Nat} (ha : a < 8) (hB : B < 16) (hp : p < 8) : nb (bp B a) p = if p = a then B else 0 := nb_bp hB ha hp
theorem nb2 {a b B C p : Nat} (ha : a < 8) (hb : b < 8) (hB : B < 16) (hC : C < 16) (hp : p < 8) (hab : a ≠ b) : nb (bp B a ^^^ bp C b) p = if p = a then B else if p = b then C else 0 := by
  rw [nb_xor, nb_bp hB ha hp, nb_bp hC hb hp]
  by_cases h1 : p = a
  · rw [if_pos h1, if_pos h1, if_neg (fun z => hab (h1.symm.trans z)), Nat.xor_zero]
  · rw [if_neg h1, if_neg h1, Nat.zero_xor]
theorem nb3 {a b c B C D p : Nat} (ha : a < 8) (hb : b < 8) (hc : c < 8) (hB : B < 16) (hC : C < 16) (hD : D < 16) (hp : p < 8) (hab : a ≠ b) (hca : c ≠ a) (hcb : c ≠ b) : nb (bp B a ^^^ bp C b ^^^ bp D c) p = if p = a then B else if p = b then C else if p = c then D else 0 := by
  rw [nb_xor, nb2 ha hb hB hC hp hab, nb_bp hD hc hp]
  by_cases h1 : p = a
  · rw [if_pos h1, if_pos h1, if_neg (fun z => hca (z.symm.trans h1)), Nat.xor_zero]
  · rw [if_neg h1, if_neg h1]
    by_cases h2 : p = b
    · rw [if_pos h2, if_pos h2, if_neg (fun z => hcb (z.symm.trans h2)), Nat.xor_zero]
    · rw [if_neg h2, if_neg h2, Nat.zero_xor]
theorem nb4 {a b c d B C D E p : Nat} (ha : a < 8) (hb : b < 8) (hc : c < 8) (hd : d < 8) (hB : B < 16) (hC : C < 16) (hD : D < 16) (hE : E < 16) (hp : p < 8) (hab : a ≠ b) (hca : c ≠ a) (hcb : c ≠ b) (hda : d ≠ a) (hdb : d ≠ b) (hdc : d ≠ c) : nb (bp B a ^^^ bp C b ^^^ bp D c ^^^ bp E d) p = if p = a then B else if p = b then C else if p = c then D else if p = d then E else 0 := by
  rw [nb_xor, nb3 ha hb hc hB hC hD hp hab hca hcb, nb_bp hE hd hp]
  by_cases h1 : p = a
  · rw [if_pos h1, if_pos h1, if_neg (fun z => hda (z.symm.trans h1)), Nat.xor_zero]
  · rw [if_neg h1, if_neg h1]
    by_cases h2 : p = b
    · rw [if_pos h2, if_pos h2, if_neg (fun z => hdb (z.symm.trans h2)), Nat.xor_zero]
    · rw [if_neg h2, if_neg h2]
      by_cases h3 : p = c
      · rw [if_pos h3, if_pos h3, if_neg (fun z => hdc (z.symm.trans h3)), Nat.xor_zero]
      · rw [if_neg h3, if_neg h3, Nat.zero_xor]
/-- the two bits, read off -/
theorem tb2 (a b p : Nat) : (2 ^ a ||| 2 ^ b).testBit p = (decide (a = p) || decide (b = p)) := by rw [Nat.testBit_or, tp, tp]
theorem e2_32 {a b B C : Nat} (ha : a < 8) (hb : b < 8) (hB : B < 16) (hC : C < 16) : bp B a ^^^ bp C b < 2 ^ 32 := x32 (bp32 hB ha) (bp32 hC hb)
theorem e3_32 {a b c B C D : Nat} (ha : a < 8) (hb : b < 8) (hc : c < 8) (hB : B < 16) (hC : C < 16) (hD : D < 16) : bp B a ^^^ bp C b ^^^ bp D c < 2 ^ 32 := x32 (e2_32 ha hb hB hC) (bp32 hD hc)
theorem m0 {n : Nat} (hn : n < 2 ^ 32) (hs : syN n = 0) : fRep (lN n) 0 = lN n ∧ fDiff (lN n) (lN n) = 0 := by
  have h1 := rep_ok (e := 0) (E := 0) (wk := 0) hn hs (by decide) (by decide) (by decide) (by decide) (by decide) (fun p _ _ => nb_0 p)
  have h2 := diff_ok (n := n) (e := 0) (M := 0) hn (by decide) (fun p _ => by rw [nb_0, Nat.zero_testBit]; simp)
  rw [Nat.xor_zero] at h1 h2
  exact ⟨h1, h2⟩
theorem m1 {n a B : Nat} (hn : n < 2 ^ 32) (hs : syN n = 0) (ha : a < 8) (hB : B < 16) (hB0 : B ≠ 0) : fRep (lN (n ^^^ bp B a)) 0 = lN n ∧ fDiff (lN (n ^^^ bp B a)) (lN n) = 1 := by
  refine ⟨rep_ok (E := 2 ^ a) (wk := 0) hn hs (bp32 hB ha) (p256 ha) (by decide) (Nat.and_zero _) (by rw [pw1 ha]; decide) (fun p hp h => ?_), ?_⟩
  · rw [nb1 ha hB hp]
    rw [Nat.or_zero, tp] at h
    exact if_neg (fun z => of_decide_eq_false h z.symm)
  · rw [diff_ok (M := 2 ^ a) hn (bp32 hB ha) (fun p hp => ?_), pw1 ha]
    · rfl
    · rw [nb1 ha hB hp, tp, decide_eq_true_iff]
      by_cases h1 : p = a
      · simp [h1, hB0]
      · rw [if_neg h1]; exact ⟨fun z => absurd rfl z, fun z => absurd z.symm h1⟩
theorem m2d {n a b B C : Nat} (hn : n < 2 ^ 32) (ha : a < 8) (hb : b < 8) (hab : a ≠ b) (hB : B < 16) (hB0 : B ≠ 0) (hC : C < 16) (hC0 : C ≠ 0) : fDiff (lN (n ^^^ (bp B a ^^^ bp C b))) (lN n) = 2 := by
  rw [diff_ok (M := 2 ^ a ||| 2 ^ b) hn (e2_32 ha hb hB hC) (fun p hp => ?_), pw2 ha hb hab]
  · rfl
  · rw [nb2 ha hb hB hC hp hab, tb2]
    by_cases h1 : p = a
    · simp [h1, hB0]
    · by_cases h2 : p = b
      · rw [if_neg h1, if_pos h2]; simp [h2, hC0]
      · rw [if_neg h1, if_neg h2]; simp [Ne.symm h1, Ne.symm h2]
theorem m2 {n a b B C : Nat} (hn : n < 2 ^ 32) (hs : syN n = 0) (ha : a < 8) (hb : b < 8) (hab : a ≠ b) (hB : B < 16) (hC : C < 16) : fRep (lN (n ^^^ (bp B a ^^^ bp C b))) 0 = lN n := by
  refine rep_ok (E := 2 ^ a ||| 2 ^ b) (wk := 0) hn hs (e2_32 ha hb hB hC) (or256 (p256 ha) (p256 hb)) (by decide) (Nat.and_zero _) (by rw [pw2 ha hb hab]; decide) (fun p hp h => ?_)
  rw [Nat.or_zero, tb2, Bool.or_eq_false_iff] at h
  rw [nb2 ha hb hB hC hp hab, if_neg (fun z => of_decide_eq_false h.1 z.symm), if_neg (fun z => of_decide_eq_false h.2 z.symm)]
theorem m3 {n a b B C : Nat} (hn : n < 2 ^ 32) (hs : syN n = 0) (ha : a < 8) (hb : b < 8) (hab : a ≠ b) (hB : B < 16) (hC : C < 16) : fRep (lN (n ^^^ (bp B a ^^^ bp C b))) (nI (2 ^ a ||| 2 ^ b)) = lN n := by
  refine rep_ok (E := 0) hn hs (e2_32 ha hb hB hC) (by decide) (or256 (p256 ha) (p256 hb)) (Nat.zero_and _) (by rw [pw2 ha hb hab]; decide) (fun p hp h => ?_)
  rw [Nat.zero_or, tb2, Bool.or_eq_false_iff] at h
  rw [nb2 ha hb hB hC hp hab, if_neg (fun z => of_decide_eq_false h.1 z.symm), if_neg (fun z => of_decide_eq_false h.2 z.symm)]
theorem m4 {n a b c B C D : Nat} (hn : n < 2 ^ 32) (hs : syN n = 0) (ha : a < 8) (hb : b < 8) (hc : c < 8) (hab : a ≠ b) (hca : c ≠ a) (hcb : c ≠ b) (hB : B < 16) (hB0 : B ≠ 0) (hC : C < 16) (hC0 : C ≠ 0) (hD : D < 16) (hD0 : D ≠ 0) : fRep (lN (n ^^^ (bp B a ^^^ bp C b ^^^ bp D c))) (nI (2 ^ a ||| 2 ^ b)) = lN n ∧ fDiff (lN (n ^^^ (bp B a ^^^ bp C b ^^^ bp D c))) (lN n) = 3 := by
  obtain ⟨q1, q2, -⟩ := pw3x ha hb hc hab hca hcb
  refine ⟨rep_ok (E := 2 ^ c) hn hs (e3_32 ha hb hc hB hC hD) (p256 hc) (or256 (p256 ha) (p256 hb)) q2 (by rw [pw2 ha hb hab, pw1 hc]; decide) (fun p hp h => ?_), ?_⟩
  · rw [Nat.testBit_or, tb2, tp, Bool.or_eq_false_iff, Bool.or_eq_false_iff] at h
    rw [nb3 ha hb hc hB hC hD hp hab hca hcb, if_neg (fun z => of_decide_eq_false h.2.1 z.symm), if_neg (fun z => of_decide_eq_false h.2.2 z.symm), if_neg (fun z => of_decide_eq_false h.1 z.symm)]
  · rw [diff_ok (M := 2 ^ a ||| 2 ^ b ||| 2 ^ c) hn (e3_32 ha hb hc hB hC hD) (fun p hp => ?_), q1]
    · rfl
    · rw [nb3 ha hb hc hB hC hD hp hab hca hcb, Nat.testBit_or, tb2, tp]
      by_cases h1 : p = a
      · simp [h1, hB0]
      · by_cases h2 : p = b
        · rw [if_neg h1, if_pos h2]; simp [h2, hC0]
        · by_cases h3 : p = c
          · rw [if_neg h1, if_neg h2, if_pos h3]; simp [h3, hD0]
          · rw [if_neg h1, if_neg h2, if_neg h3]; simp [Ne.symm h1, Ne.symm h2, Ne.symm h3]
theorem m5 {n a b c d B C D E : Nat} (hn : n < 2 ^ 32) (hs : syN n = 0) (ha : a < 8) (hb : b < 8) (hc : c < 8) (hd : d < 8) (hab : a ≠ b) (hca : c ≠ a) (hcb : c ≠ b) (hda : d ≠ a) (hdb : d ≠ b) (hdc : d ≠ c) (hB : B < 16) (hB0 : B ≠ 0) (hC : C < 16) (hC0 : C ≠ 0) (hD : D < 16) (hD0 : D ≠ 0) (hE : E < 16) (hE0 : E ≠ 0) : fRep (lN (n ^^^ (bp B a ^^^ bp C b ^^^ bp D c ^^^ bp E d))) (nI (2 ^ a ||| 2 ^ b ||| 2 ^ c ||| 2 ^ d)) = lN n ∧ fDiff (lN (n ^^^ (bp B a ^^^ bp C b ^^^ bp D c ^^^ bp E d))) (lN n) = 4 := by
  obtain ⟨-, -, q3⟩ := pw3x ha hb hc hab hca hcb
  have q4 := q3 d hd hda hdb hdc
  have he : bp B a ^^^ bp C b ^^^ bp D c ^^^ bp E d < 2 ^ 32 := x32 (e3_32 ha hb hc hB hC hD) (bp32 hE hd)
  refine ⟨rep_ok (E := 0) hn hs he (by decide) (or256 (or256 (or256 (p256 ha) (p256 hb)) (p256 hc)) (p256 hd)) (Nat.zero_and _) (by rw [q4]; decide) (fun p hp h => ?_), ?_⟩
  · rw [Nat.zero_or, Nat.testBit_or, Nat.testBit_or, tb2, tp, tp, Bool.or_eq_false_iff, Bool.or_eq_false_iff, Bool.or_eq_false_iff] at h
    rw [nb4 ha hb hc hd hB hC hD hE hp hab hca hcb hda hdb hdc, if_neg (fun z => of_decide_eq_false h.1.1.1 z.symm), if_neg (fun z => of_decide_eq_false h.1.1.2 z.symm), if_neg (fun z => of_decide_eq_false h.1.2 z.symm), if_neg (fun z => of_decide_eq_false h.2 z.symm)]
  · rw [diff_ok (M := 2 ^ a ||| 2 ^ b ||| 2 ^ c ||| 2 ^ d) hn he (fun p hp => ?_), q4]
    · rfl
    · rw [nb4 ha hb hc hd hB hC hD hE hp hab hca hcb hda hdb hdc, Nat.testBit_or, Nat.testBit_or, tb2, tp, tp]
      by_cases h1 : p = a
      · simp [h1, hB0]
      · by_cases h2 : p = b
        · rw [if_neg h1, if_pos h2]; simp [h2, hC0]
        · by_cases h3 : p = c
          · rw [if_neg h1, if_neg h2, if_pos h3]; simp [h3, hD0]
          · by_cases h4 : p = d
            · rw [if_neg h1, if_neg h2, if_neg h3, if_pos h4]; simp [h4, hE0]
            · rw [if_neg h1, if_neg h2, if_neg h3, if_neg h4]; simp [Ne.symm h1, Ne.symm h2, Ne.symm h3, Ne.symm h4]
theorem m6 {n a b c B C D : Nat} (hn : n < 2 ^ 32) (hs : syN n = 0) (ha : a < 8) (hb : b < 8) (hc : c < 8) (hab : a ≠ b) (hca : c ≠ a) (hcb : c ≠ b) (hB : B < 16) (hB0 : B ≠ 0) (hC : C < 16) (hC0 : C ≠ 0) (hD : D < 16) : fRep (lN (n ^^^ (bp B a ^^^ bp C b ^^^ bp D c))) (nI (2 ^ c)) = -1 := by
  have n3 := fun p hp => nb3 (p := p) ha hb hc hB hC hD hp hab hca hcb
  have ea : nb (bp B a ^^^ bp C b ^^^ bp D c) a ≠ 0 := by rw [n3 a ha, if_pos rfl]; exact hB0
  have eb : nb (bp B a ^^^ bp C b ^^^ bp D c) b ≠ 0 := by rw [n3 b hb, if_neg (Ne.symm hab), if_pos rfl]; exact hC0
  have ta : (2 ^ c).testBit a = false := by rw [tp]; exact decide_eq_false hca
  have tb' : (2 ^ c).testBit b = false := by rw [tp]; exact decide_eq_false hcb
  have hz : ∀ p, p < 8 → p ≠ a → p ≠ b → (2 ^ c).testBit p = false → nb (bp B a ^^^ bp C b ^^^ bp D c) p = 0 := by
    intro p hp h1 h2 h3
    rw [tp] at h3
    rw [n3 p hp, if_neg h1, if_neg h2, if_neg (fun z => of_decide_eq_false h3 z.symm)]
  rcases Nat.lt_or_gt_of_ne hab with h | h
  · exact rep_lost hn hs (e3_32 ha hb hc hB hC hD) (p256 hc) (pw1 hc) ha hb h ta tb' ea eb hz
  · exact rep_lost hn hs (e3_32 ha hb hc hB hC hD) (p256 hc) (pw1 hc) hb ha h tb' ta eb ea (fun p hp h1 h2 h3 => hz p hp h2 h1 h3)
/-! .. in the machine's words -/
theorem xx3 (n a b c : Nat) : n ^^^ a ^^^ b ^^^ c = n ^^^ (a ^^^ b ^^^ c) := by rw [Nat.xor_assoc, Nat.xor_assoc, Nat.xor_assoc]
theorem lTurn {n a B : Nat} (ha : a < 8) (hB : B < 16) : lN n ^^^ ((nI B).toInt64 <<< ((4 * nI a).toInt64 &&& 63)) = lN (n ^^^ bp B a) := cTurn ha hB
theorem lTurn5 {n d : Nat} (hd : d < 8) : lN n ^^^ ((5 : Int64) <<< ((4 * nI d).toInt64 &&& 63)) = lN (n ^^^ bp 5 d) := by
  rw [c4, show (5 : Int64) = lN 5 from rfl, wb_shl 5 (by omega), lN_xor]
  rfl
theorem lWeak {a b : Nat} (ha : a < 8) (hb : b < 8) : ((1 : Int32) <<< (nI a &&& 31)) ||| ((1 : Int32) <<< (nI b &&& 31)) = nI (2 ^ a ||| 2 ^ b) := by
  rw [cOne a ha, cOne b hb, fa_or]
/-! bytes and cells -/
def lC (d : Int32) : Nat → Int32 → Int32 → Int32
  | 0, q, _ => q
  | n+1, q, la => lC d n (2 * (2 * q + (if ((d >>> (nI n &&& 31)) &&& 1) + la = 0 then 1 else 0)) + ((d >>> (nI n &&& 31)) &&& 1)) ((d >>> (nI n &&& 31)) &&& 1)
def lCells (d la : Int32) : Int32 := lC d 8 0 la
def chkE : Bool := (List.range 256).all fun d => (List.range 2).all fun b => fByte (nI d) (nI b) == lCells (nI d) (nI b) && fData (lCells (nI d) (nI b)) == nI d && decide (¬ (lCells (nI d) (nI b)).toInt64 < 0) && decide (¬ 65535 < (lCells (nI d) (nI b)).toInt64)
theorem chkE_ok : chkE = true := by decide +kernel
theorem cell_ok {d b : Nat} (hd : d < 256) (hb : b < 2) : fByte (nI d) (nI b) = lCells (nI d) (nI b) ∧ fData (lCells (nI d) (nI b)) = nI d ∧ (¬ (lCells (nI d) (nI b)).toInt64 < 0) ∧ ¬ 65535 < (lCells (nI d) (nI b)).toInt64 := by
  have h := range_ok (range_ok chkE_ok hd) hb
  rw [Bool.and_eq_true, Bool.and_eq_true, Bool.and_eq_true] at h
  exact ⟨eq_of_beq h.1.1.1, eq_of_beq h.1.1.2, of_decide_eq_true h.1.2, of_decide_eq_true h.2⟩
def chkF : Bool := (List.range 256).all fun d => (List.range 2).all fun b => (List.range 8).all fun i => (fun x : Int32 => decide (¬ fByte (fData x) (nI b) = x) && decide (¬ x.toInt64 < 0) && decide (¬ 65535 < x.toInt64)) (lCells (nI d) (nI b) ^^^ ((2 : Int32) <<< ((2 * nI i) &&& 31)))
theorem chkF_ok : chkF = true := by decide +kernel
theorem cell_no {d b i : Nat} (hd : d < 256) (hb : b < 2) (hi : i < 8) : (¬ fByte (fData (lCells (nI d) (nI b) ^^^ ((2 : Int32) <<< ((2 * nI i) &&& 31)))) (nI b) = lCells (nI d) (nI b) ^^^ ((2 : Int32) <<< ((2 * nI i) &&& 31))) ∧ (¬ (lCells (nI d) (nI b) ^^^ ((2 : Int32) <<< ((2 * nI i) &&& 31))).toInt64 < 0) ∧ ¬ 65535 < (lCells (nI d) (nI b) ^^^ ((2 : Int32) <<< ((2 * nI i) &&& 31))).toInt64 := by
  have h := range_ok (range_ok (range_ok chkF_ok hd) hb) hi
  rw [Bool.and_eq_true, Bool.and_eq_true] at h
  exact ⟨of_decide_eq_true h.1.1, of_decide_eq_true h.1.2, of_decide_eq_true h.2⟩
