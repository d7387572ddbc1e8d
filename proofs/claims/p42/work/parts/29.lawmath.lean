/-! The law's own search: every row of cells, from the greatest on -/
def sv (L : Nat) (xs : Nat → Int32) (j : Nat) : Int32 := gIn L xs (120 + j) 81 - 40
abbrev tS (L : Nat) (xs : Nat → Int32) : Nat → Int := fun j => (sv L xs j).toInt
theorem sv_small (L : Nat) (xs : Nat → Int32) : small (tS L xs) := by
  intro j
  obtain ⟨a, ha, ea⟩ := gIn_lt L xs (120 + j) (N := 81) (by decide) (by decide)
  have e : (sv L xs j).toInt = (a : Int) - 40 := by
    unfold sv
    rw [show gIn L xs (120 + j) 81 = nI a from ea]
    exact pk_sub_toInt (a := a) (b := 40) (by omega) (by decide)
  show -40 ≤ (sv L xs j).toInt ∧ (sv L xs j).toInt ≤ 40
  rw [e]
  omega
theorem sv_lo (L : Nat) (xs : Nat → Int32) (j : Nat) : ¬ (sv L xs j).toInt64 < -40 := by
  have h := (sv_small L xs j).1
  rw [Int64.lt_iff_toInt_lt, Int32.toInt_toInt64, show (-40 : Int64).toInt = -40 by decide]
  exact Int.not_lt.mpr h
theorem sv_hi (L : Nat) (xs : Nat → Int32) (j : Nat) : ¬ 40 < (sv L xs j).toInt64 := by
  have h := (sv_small L xs j).2
  rw [Int64.lt_iff_toInt_lt, Int32.toInt_toInt64, show (40 : Int64).toInt = 40 by decide]
  exact Int.not_lt.mpr h
theorem bm32 {n : Int} (h1 : -2 ^ 31 ≤ n) (h2 : n < 2 ^ 31) : n.bmod (2 ^ 32) = n := by
  rw [Int.bmod_def]; omega
theorem sq32 {x : Int32} {z : Int} (hx : x.toInt = z) (h1 : -100 ≤ z) (h2 : z ≤ 100) : x * x = nI (z.natAbs * z.natAbs) := by
  have h3 : z.natAbs * z.natAbs ≤ 100 * 100 := Nat.mul_le_mul (by omega) (by omega)
  have h4 : ((z.natAbs * z.natAbs : Nat) : Int) = z * z := Int.natAbs_mul_self
  apply Int32.toInt_inj.mp
  have h5 : x.toInt * x.toInt = z * z := by rw [hx]
  rw [Int32.toInt_mul, h5, ← h4, bm32 (by omega) (by omega), nI_toInt (by omega)]
theorem o32 {x : Int32} {t : Int} (hx : x.toInt = t) (h1 : -40 ≤ t) (h2 : t ≤ 40) {c d : Nat} (hc : c ≤ 1) (hd : d ≤ 1) : (x - 10 * nI c + 10 * nI d) * (x - 10 * nI c + 10 * nI d) = nI (o2 t c d) := by
  have e1 : ((10 : Int32) * nI c).toInt = 10 * (c : Int) := by
    rw [show (10 : Int32) = nI 10 from rfl, pk_mul, nI_toInt (by omega)]
    omega
  have e2 : ((10 : Int32) * nI d).toInt = 10 * (d : Int) := by
    rw [show (10 : Int32) = nI 10 from rfl, pk_mul, nI_toInt (by omega)]
    omega
  have e3 : (x - 10 * nI c).toInt = t - 10 * (c : Int) := by
    rw [Int32.toInt_sub, hx, e1, bm32 (by omega) (by omega)]
  have e4 : (x - 10 * nI c + 10 * nI d).toInt = t - 10 * (c : Int) + 10 * (d : Int) := by
    rw [Int32.toInt_add, e3, e2, bm32 (by omega) (by omega)]
  exact sq32 e4 (by omega) (by omega)
theorem cell32 {r j : Nat} (hr : r < 2 ^ 31) (hj : j < 32) : (nI r >>> (nI j &&& 31)) &&& 1 = nI (r / 2 ^ j % 2) := by
  rw [pk_shrN hr _ j (s_l j hj)]
  exact fa_mask _ 1
theorem co_row (t : Nat → Int) {m k r : Nat} (hk : k < m) (hr : r < 2 ^ m) : co t (k + 1) (r / 2 ^ (m - (k + 1))) = co t k (r / 2 ^ (m - k)) + o2 (t k) (r / 2 ^ (m - 1 - k) % 2) (if k < 2 then 0 else r / 2 ^ (m + 1 - k) % 2) := by
  obtain ⟨j, hj⟩ : ∃ j, j = m - 1 - k := ⟨_, rfl⟩
  have e0 : m - (k + 1) = j := by omega
  have e1 : m - k = j + 1 := by omega
  have e2 : m + 1 - k = j + 2 := by omega
  rw [e0, e1, e2, ← hj, co]
  have d1 : r / 2 ^ j / 2 = r / 2 ^ (j + 1) := by rw [Nat.div_div_eq_div_mul, Nat.pow_succ]
  have d2 : r / 2 ^ j / 4 = r / 2 ^ (j + 2) := by rw [Nat.div_div_eq_div_mul, Nat.pow_add]
  rw [d1, d2]
  by_cases h2 : k < 2
  · rw [if_pos h2, show r / 2 ^ (j + 2) = 0 from Nat.div_eq_of_lt (Nat.lt_of_lt_of_le hr (Nat.pow_le_pow_right (by decide) (by omega))), Nat.zero_mod]
  · rw [if_neg h2]
def LI (t : Nat → Int) (m rr : Nat) (best least : Int32) : Prop := (rr = 2 ^ m ∧ best = 0 ∧ least = 2147483647) ∨ ∃ bb, rr ≤ bb ∧ bb < 2 ^ m ∧ best = nI bb ∧ least = nI (co t m bb) ∧ ∀ r, rr ≤ r → r < 2 ^ m → co t m bb < co t m r ∨ (co t m bb = co t m r ∧ bb ≤ r)
theorem co8 {t : Nat → Int} (ht : small t) {m : Nat} (hm : m ≤ 8) (r : Nat) : co t m r ≤ 20000 := by
  have := co_le ht m r
  omega
theorem LI_le {t : Nat → Int} (ht : small t) {m rr : Nat} (hm : m ≤ 8) (hr : rr < 2 ^ m) {best least : Int32} (h : LI t m (rr + 1) best least) (hc : ¬ least < nI (co t m rr)) : LI t m rr (nI rr) (nI (co t m rr)) := by
  refine Or.inr ⟨rr, Nat.le_refl _, hr, rfl, rfl, fun r h1 h2 => ?_⟩
  have c1 := co8 ht hm rr
  by_cases he : r = rr
  · subst he; exact Or.inr ⟨rfl, Nat.le_refl _⟩
  · rcases h with ⟨h3, -, -⟩ | ⟨bb, h3, h4, h5, h6, h7⟩
    · omega
    · have c2 := co8 ht hm bb
      rw [h6, nI_ltI (by omega) (by omega)] at hc
      have := h7 r (by omega) h2
      omega
theorem LI_gt {t : Nat → Int} (ht : small t) {m rr : Nat} (hm : m ≤ 8) {best least : Int32} (h : LI t m (rr + 1) best least) (hc : least < nI (co t m rr)) : LI t m rr best least := by
  have c1 := co8 ht hm rr
  rcases h with ⟨h3, h4, h5⟩ | ⟨bb, h3, h4, h5, h6, h7⟩
  · rw [h5, show (2147483647 : Int32) = nI 2147483647 from rfl, nI_ltI (by decide) (by omega)] at hc
    omega
  · have c2 := co8 ht hm bb
    have hc' := hc
    rw [h6, nI_ltI (by omega) (by omega)] at hc'
    refine Or.inr ⟨bb, by omega, h4, h5, h6, fun r h1 h2 => ?_⟩
    by_cases he : r = rr
    · subst he; exact Or.inl hc'
    · exact h7 r (by omega) h2
theorem LI_end {t : Nat → Int} {m : Nat} {best least : Int32} (h : LI t m 0 best least) : ∃ r, Least (co t m) m r ∧ best = nI r := by
  rcases h with ⟨h1, -, -⟩ | ⟨bb, -, h4, h5, -, h7⟩
  · exact absurd h1.symm (Nat.ne_of_gt (Nat.pow_pos (by decide)))
  · exact ⟨bb, ⟨h4, fun r h => h7 r (Nat.zero_le _) h⟩, h5⟩
theorem pe4 {α β γ δ : Type} (u : α × β × γ × δ) : u = (u.1, u.2.1, u.2.2.1, u.2.2.2) := rfl
theorem upd_k (g : Nat → Int32) {k : Nat} (hk : k < 2 ^ 31) (x : Int32) (j : Nat) : upd g (nI k).toNatClampNeg x j = if j = k then x else g j := by
  rw [nI_clamp hk]
  rfl
theorem row_sub {m k : Nat} (hk : k < m) : nI m - 1 - nI k = nI (m - 1 - k) := by
  rw [show (1 : Int32) = nI 1 from rfl, pk_sub (by omega), pk_sub (by omega)]
theorem row_sub2 {m k : Nat} (hk : k < m) : nI m + 1 - nI k = nI (m + 1 - k) := by
  rw [nI_1, pk_sub (by omega)]
theorem row_all {m : Nat} (hm : m ≤ 8) : ((1 : Int32) <<< (nI m &&& 31)) - 1 = nI (2 ^ m) + (-1) := by
  rcases (show m = 0 ∨ m = 1 ∨ m = 2 ∨ m = 3 ∨ m = 4 ∨ m = 5 ∨ m = 6 ∨ m = 7 ∨ m = 8 by omega) with rfl | rfl | rfl | rfl | rfl | rfl | rfl | rfl | rfl <;> decide
